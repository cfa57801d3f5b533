set_option maxHeartbeats 4000000 in
set_option maxRecDepth 100000 in
theorem c_X4_pairOf_neg (l : Launch) {G : gG} {T : gTy} {I : gI} {J : gJ} {Q : gR} {O : gO} {H : Heap} (hP : gP G T I J Q O H) {g r d mr md : Nat} {ck : Bool} {cr cd : CL} {Sr Sd : Nat → Prop} {fr sr fd sd : Nat} {ar ad : Nat → Nat} {q : Int32} (hg : isGT T J Q O g r d mr md ck cr cd Sr Sd) (hgc : gtC T J Q O r d fr sr fd sd ar ad cr cd) (hq : q < 0) : Met l yX4_pairOf (gw yX4_pairOf cX4_pairOf 7 (some (.int))) ({ frames := 0, cells := 0, slots := 0, locals := 0 } : Room) (gPc G H [.ref g, .int q]) (gQp (some (.int (-9)))) 0 0 (fun _ => False) := by
  refine g_met [(0, .ref g), (1, .int q)] (by decide) rfl (by exact Nat.le_of_ble_eq_true rfl) ?_
  intro p e s m below meth c hC hs ls hl
  have hx := hC.1.1
  have hb := hC.1.2.1
  have hg_lo8 := hg.2.2.2.2.2.2.2.2.1.2.2.2.2.2.2.2.2.1
  have hg_hi8 := hg.2.2.2.2.2.2.2.2.1.2.2.2.2.2.2.2.2.2
  have hg_lo9 := hg.2.2.2.2.2.2.2.2.2.1.2.2.2.2.2.2.2.2.1
  have hg_hi9 := hg.2.2.2.2.2.2.2.2.2.1.2.2.2.2.2.2.2.2.2
  have hg_ad := hg.2.2.2.2.2.2.2.2.2.2.2.2.2.2.2.2.1
  have hgc_c0 := hgc.1.2.2.1
  have hgc_f0 := hgc.1.2.2.2.1
  have hgc_c1 := hgc.2.1.2.2.1
  have hgc_f1 := hgc.2.1.2.2.2.1
  have hgc_r := hgc.2.2.2.2.2.2.1
  have hgc_d := hgc.2.2.2.2.2.2.2
  refine lv_iconst (v := nI 0) hx hb dX4_pairOf_0 (by decide) ?_
  refine lv_istore_n (lv' := [(2, .int (nI 0)), (0, .ref g), (1, .int q)]) hx hb dX4_pairOf_1 rfl hl (by decide) rfl (fun ls hl => ?_)
  refine lv_iconst (v := nI 0) hx hb dX4_pairOf_2 (by decide) ?_
  refine lv_istore_n (lv' := [(3, .int (nI 0)), (2, .int (nI 0)), (0, .ref g), (1, .int q)]) hx hb dX4_pairOf_3 rfl hl (by decide) rfl (fun ls hl => ?_)
  refine lv_iload_n hx hb dX4_pairOf_4 rfl (lv_at hl 0 rfl) ?_
  refine lv_aload_n hx hb dX4_pairOf_5 rfl (lv_at hl 2 rfl) ?_
  refine g_get hC hP hg.1 rfl inX4 0 (by decide) q1_115 hg.2.1 dX4_pairOf_6 ?_
  refine g_get hC hP hg.2.2.2.2.2.2.2.2.1.1 rfl inX3 1 (by decide) q1_80 hg.2.2.2.2.2.2.2.2.1.2.2.1 dX4_pairOf_9 ?_
  refine g_get hC hP hg.2.2.2.2.2.2.2.2.2.2.2.2.1.1 rfl inX0 0 (by decide) q1_62 hgc.1.1 dX4_pairOf_12 ?_
  refine lv_icmp_ge (tgt := 121) hx hb dX4_pairOf_15 (by decide) (fun c15 => ?_) (fun c15 => ?_)
  · have c15 := (nI_leI (by omega) (by omega)).mp c15
    refine lv_bipush (v := (-9)) hx hb dX4_pairOf_121 (by decide) ?_
    exact g_reti hC hs rfl dX4_pairOf_123
  · have c15 := mt (nI_leI (by omega) (by omega)).mpr c15
    refine lv_iload_n hx hb dX4_pairOf_18 rfl (lv_at hl 1 rfl) ?_
    refine lv_iload_n hx hb dX4_pairOf_19 rfl (lv_at hl 3 rfl) ?_
    refine lv_icmp_gt (tgt := 121) hx hb dX4_pairOf_20 (by decide) (fun c20 => ?_) (fun c20 => ?_)
    · refine lv_bipush (v := (-9)) hx hb dX4_pairOf_121 (by decide) ?_
      exact g_reti hC hs rfl dX4_pairOf_123
    · exact absurd (Int32.not_lt.mpr (Int32.not_lt.mp c20)) (fun z => z (by rw [nI_0]; exact hq))
set_option maxHeartbeats 4000000 in
set_option maxRecDepth 100000 in
theorem c_X4_pairOf (l : Launch) {G : gG} {T : gTy} {I : gI} {J : gJ} {Q : gR} {O : gO} {H : Heap} (hP : gP G T I J Q O H) {g r d mr md : Nat} {ck : Bool} {cr cd : CL} {Sr Sd : Nat → Prop} {fr sr fd sd : Nat} {ar ad : Nat → Nat} {bb : Nat} (hg : isGT T J Q O g r d mr md ck cr cd Sr Sd) (hgc : gtC T J Q O r d fr sr fd sd ar ad cr cd) (hbb : bb < 2 ^ 31) : Met l yX4_pairOf (gw yX4_pairOf cX4_pairOf 7 (some (.int))) ({ frames := 1, cells := 0, slots := 0, locals := 21 } : Room) (gPc G H [.ref g, .int (nI bb)]) (gQp (some (.int (oI (pairP cr cd bb))))) 0 0 (fun _ => False) := by
  refine g_met [(0, .ref g), (1, .int (nI bb))] (by decide) rfl (by exact Nat.le_of_ble_eq_true rfl) ?_
  intro p e s m below meth c hC hs ls hl
  have hx := hC.1.1
  have hb := hC.1.2.1
  have hg_lo8 := hg.2.2.2.2.2.2.2.2.1.2.2.2.2.2.2.2.2.1
  have hg_hi8 := hg.2.2.2.2.2.2.2.2.1.2.2.2.2.2.2.2.2.2
  have hg_lo9 := hg.2.2.2.2.2.2.2.2.2.1.2.2.2.2.2.2.2.2.1
  have hg_hi9 := hg.2.2.2.2.2.2.2.2.2.1.2.2.2.2.2.2.2.2.2
  have hg_ad := hg.2.2.2.2.2.2.2.2.2.2.2.2.2.2.2.2.1
  have hgc_c0 := hgc.1.2.2.1
  have hgc_f0 := hgc.1.2.2.2.1
  have hgc_c1 := hgc.2.1.2.2.1
  have hgc_f1 := hgc.2.1.2.2.2.1
  have hgc_r := hgc.2.2.2.2.2.2.1
  have hgc_d := hgc.2.2.2.2.2.2.2
  refine lv_iconst (v := nI 0) hx hb dX4_pairOf_0 (by decide) ?_
  refine lv_istore_n (lv' := [(2, .int (nI 0)), (0, .ref g), (1, .int (nI bb))]) hx hb dX4_pairOf_1 rfl hl (by decide) rfl (fun ls hl => ?_)
  refine lv_iconst (v := nI 0) hx hb dX4_pairOf_2 (by decide) ?_
  refine lv_istore_n (lv' := [(3, .int (nI 0)), (2, .int (nI 0)), (0, .ref g), (1, .int (nI bb))]) hx hb dX4_pairOf_3 rfl hl (by decide) rfl (fun ls hl => ?_)
  have L4 : ∀ (n4 : Nat) (i : Nat) (ah : Nat), 70 ≤ n4 + i → (i ≤ cr.1 ∧ ah ≤ bb) → (ah = bR cr cd i) → ∀ ls : Array Slot, lv_has ls 7 [(0, .ref g), (1, .int (nI bb)), (2, .int (nI ah)), (3, .int (nI i))] → W p l e ({ frames := 1, cells := 0, slots := 0, locals := 21 } : Room) s m [.ref g, .int (nI bb)].toArray below meth c H [] 0 0 (MQ below (gQp (some (.int (oI (pairP cr cd bb))))) [.ref g, .int (nI bb)].toArray s 0 0 (fun _ => False)) (F0 m 4 ls []) := by
    intro n4
    induction n4 with
    | zero => intro i ah hn4 hi h1; exact absurd hn4 (by omega)
    | succ n4 ih4 =>
      intro i ah hn4 hi h1 ls hl
      refine lv_iload_n hx hb dX4_pairOf_4 rfl (lv_at hl 3 rfl) ?_
      refine lv_aload_n hx hb dX4_pairOf_5 rfl (lv_at hl 0 rfl) ?_
      refine g_get hC hP hg.1 rfl inX4 0 (by decide) q1_115 hg.2.1 dX4_pairOf_6 ?_
      refine g_get hC hP hg.2.2.2.2.2.2.2.2.1.1 rfl inX3 1 (by decide) q1_80 hg.2.2.2.2.2.2.2.2.1.2.2.1 dX4_pairOf_9 ?_
      refine g_get hC hP hg.2.2.2.2.2.2.2.2.2.2.2.2.1.1 rfl inX0 0 (by decide) q1_62 hgc.1.1 dX4_pairOf_12 ?_
      refine lv_icmp_ge (tgt := 121) hx hb dX4_pairOf_15 (by decide) (fun c15 => ?_) (fun c15 => ?_)
      · have c15 := (nI_leI (by omega) (by omega)).mp c15
        refine lv_bipush (v := (-9)) hx hb dX4_pairOf_121 (by decide) ?_
        refine g_reti hC hs ?_ dX4_pairOf_123
        rw [pairP_none (by rw [show cr.1 = i from by omega, ← h1]; exact hi.2)]; rfl
      · have c15 := mt (nI_leI (by omega) (by omega)).mpr c15
        refine lv_iload_n hx hb dX4_pairOf_18 rfl (lv_at hl 2 rfl) ?_
        refine lv_iload_n hx hb dX4_pairOf_19 rfl (lv_at hl 1 rfl) ?_
        refine lv_icmp_gt (tgt := 121) hx hb dX4_pairOf_20 (by decide) (fun c20 => ?_) (fun c20 => ?_)
        · have c20 := (nI_ltI (by omega) (by omega)).mp c20
          exact absurd c20 (by omega)
        · have c20 := mt (nI_ltI (by omega) (by omega)).mpr c20
          refine lv_aload_n hx hb dX4_pairOf_23 rfl (lv_at hl 0 rfl) ?_
          refine g_get hC hP hg.1 rfl inX4 0 (by decide) q1_115 hg.2.1 dX4_pairOf_24 ?_
          refine g_get hC hP hg.2.2.2.2.2.2.2.2.1.1 rfl inX3 1 (by decide) q1_80 hg.2.2.2.2.2.2.2.2.1.2.2.1 dX4_pairOf_27 ?_
          refine lv_iload_n hx hb dX4_pairOf_30 rfl (lv_at hl 3 rfl) ?_
          refine g_cp (g_rV (As := [.int (nI i)]) hC hP (c_X0_mixAt_in l hP (k := r + 1) (cnt := cr.1) (fill := fr) (sp := sr) (j := i) (ad := ar) hg.2.2.2.2.2.2.2.2.2.2.2.2.1 hgc.1 (by first | assumption | omega)) hg.2.2.2.2.2.2.2.2.2.2.2.2.1.1 rfl ⟨q2_153, q2_150, q2_151, q2_152, q1_3⟩ dd_X0_mixAt ⟨Nat.le_of_ble_eq_true rfl, Nat.le_of_ble_eq_true rfl, rfl, rfl⟩ hl.1 rfl (Nat.le_of_ble_eq_true rfl) dX4_pairOf_31 ⟨Nat.le_of_ble_eq_true rfl, Nat.le_of_ble_eq_true rfl⟩) ?_
          refine W.eq (g2 := F0 m 34 ls [.ref (ar i)]) rfl ?_
          refine lv_astore (lv' := [(4, .ref (ar i)), (0, .ref g), (1, .int (nI bb)), (2, .int (nI ah)), (3, .int (nI i))]) hx hb dX4_pairOf_34 hl (by decide) rfl (fun ls hl => ?_)
          have hmr0 := (hgc.1.2.2.2.2.2.2.1 i (by omega)).1
          have hvr1 := (hgc.2.2.1 i (by omega)).2
          have hkr2 := hgc.2.2.2.2.1 i (by omega)
          refine lv_iconst (v := nI 0) hx hb dX4_pairOf_36 (by decide) ?_
          refine lv_istore (lv' := [(5, .int (nI 0)), (4, .ref (ar i)), (0, .ref g), (1, .int (nI bb)), (2, .int (nI ah)), (3, .int (nI i))]) hx hb dX4_pairOf_37 hl (by decide) rfl (fun ls hl => ?_)
          have L39 : ∀ (n39 : Nat) (j : Nat) (ah : Nat), 70 ≤ n39 + j → (j ≤ cd.1 ∧ ah ≤ bb) → (ah = bpos cr cd i j) → ∀ ls : Array Slot, lv_has ls 7 [(0, .ref g), (1, .int (nI bb)), (2, .int (nI ah)), (3, .int (nI i)), (4, .ref (ar i)), (5, .int (nI j))] → W p l e ({ frames := 1, cells := 0, slots := 0, locals := 21 } : Room) s m [.ref g, .int (nI bb)].toArray below meth c H [] 0 0 (MQ below (gQp (some (.int (oI (pairP cr cd bb))))) [.ref g, .int (nI bb)].toArray s 0 0 (fun _ => False)) (F0 m 39 ls []) := by
            intro n39
            induction n39 with
            | zero => intro j ah hn39 hj h2; exact absurd hn39 (by omega)
            | succ n39 ih39 =>
              intro j ah hn39 hj h2 ls hl
              refine lv_iload hx hb dX4_pairOf_39 (lv_at hl 5 rfl) ?_
              refine lv_aload_n hx hb dX4_pairOf_41 rfl (lv_at hl 0 rfl) ?_
              refine g_get hC hP hg.1 rfl inX4 1 (by decide) q1_116 hg.2.2.1 dX4_pairOf_42 ?_
              refine g_get hC hP hg.2.2.2.2.2.2.2.2.2.1.1 rfl inX3 1 (by decide) q1_80 hg.2.2.2.2.2.2.2.2.2.1.2.2.1 dX4_pairOf_45 ?_
              refine g_get hC hP hg.2.2.2.2.2.2.2.2.2.2.2.2.2.1.1 rfl inX0 0 (by decide) q1_62 hgc.2.1.1 dX4_pairOf_48 ?_
              refine lv_icmp_ge (tgt := 115) hx hb dX4_pairOf_51 (by decide) (fun c51 => ?_) (fun c51 => ?_)
              · have c51 := (nI_leI (by omega) (by omega)).mp c51
                refine lv_iinc (v := nI (i + 1)) (lv' := [(3, .int (nI (i + 1))), (0, .ref g), (1, .int (nI bb)), (2, .int (nI ah)), (4, .ref (ar i)), (5, .int (nI j))]) hx hb dX4_pairOf_115 hl (k := 3) rfl (nI_inc _) (by decide) rfl (fun ls hl => ?_)
                refine lv_goto (tgt := 4) hx hb dX4_pairOf_118 (by decide) ?_
                exact ih4 (i + 1) ah (by omega) (by omega) (by rw [h2, show j = cd.1 from by omega]; rfl) ls (lv_sub hl [1, 2, 3, 0] rfl)
              · have c51 := mt (nI_leI (by omega) (by omega)).mpr c51
                refine lv_iload_n hx hb dX4_pairOf_54 rfl (lv_at hl 2 rfl) ?_
                refine lv_iload_n hx hb dX4_pairOf_55 rfl (lv_at hl 1 rfl) ?_
                refine lv_icmp_gt (tgt := 115) hx hb dX4_pairOf_56 (by decide) (fun c56 => ?_) (fun c56 => ?_)
                · have c56 := (nI_ltI (by omega) (by omega)).mp c56
                  exact absurd c56 (by omega)
                · have c56 := mt (nI_ltI (by omega) (by omega)).mpr c56
                  refine lv_aload_n hx hb dX4_pairOf_59 rfl (lv_at hl 0 rfl) ?_
                  refine g_get hC hP hg.1 rfl inX4 1 (by decide) q1_116 hg.2.2.1 dX4_pairOf_60 ?_
                  refine g_get hC hP hg.2.2.2.2.2.2.2.2.2.1.1 rfl inX3 1 (by decide) q1_80 hg.2.2.2.2.2.2.2.2.2.1.2.2.1 dX4_pairOf_63 ?_
                  refine lv_iload hx hb dX4_pairOf_66 (lv_at hl 5 rfl) ?_
                  refine g_cp (g_rV (As := [.int (nI j)]) hC hP (c_X0_mixAt_in l hP (k := d + 1) (cnt := cd.1) (fill := fd) (sp := sd) (j := j) (ad := ad) hg.2.2.2.2.2.2.2.2.2.2.2.2.2.1 hgc.2.1 (by first | assumption | omega)) hg.2.2.2.2.2.2.2.2.2.2.2.2.2.1.1 rfl ⟨q2_153, q2_150, q2_151, q2_152, q1_3⟩ dd_X0_mixAt ⟨Nat.le_of_ble_eq_true rfl, Nat.le_of_ble_eq_true rfl, rfl, rfl⟩ hl.1 rfl (Nat.le_of_ble_eq_true rfl) dX4_pairOf_68 ⟨Nat.le_of_ble_eq_true rfl, Nat.le_of_ble_eq_true rfl⟩) ?_
                  refine W.eq (g2 := F0 m 71 ls [.ref (ad j)]) rfl ?_
                  refine lv_astore (lv' := [(6, .ref (ad j)), (0, .ref g), (1, .int (nI bb)), (2, .int (nI ah)), (3, .int (nI i)), (4, .ref (ar i)), (5, .int (nI j))]) hx hb dX4_pairOf_71 hl (by decide) rfl (fun ls hl => ?_)
                  have hmd3 := (hgc.2.1.2.2.2.2.2.2.1 j (by omega)).1
                  have hvd4 := (hgc.2.2.2.1 j (by omega)).2
                  have hkd5 := hgc.2.2.2.2.2.1 j (by omega)
                  refine lv_aload hx hb dX4_pairOf_73 (lv_at hl 5 rfl) ?_
                  refine lv_ifnull hx hb dX4_pairOf_75 ?_
                  refine lv_aload hx hb dX4_pairOf_78 (lv_at hl 0 rfl) ?_
                  refine lv_ifnull hx hb dX4_pairOf_80 ?_
                  refine lv_aload hx hb dX4_pairOf_83 (lv_at hl 5 rfl) ?_
                  refine lv_aload hx hb dX4_pairOf_85 (lv_at hl 0 rfl) ?_
                  refine g_cp (g_rV (As := [.ref (ad j)]) hC hP (c_X2_fits l hP (x := ar i) (y := ad j) (u := (cr.2 i).2.2.1) (n := (cr.2 i).2.2.2) (u2 := (cd.2 j).2.2.1) (n2 := (cd.2 j).2.2.2) (t := (cr.2 i).2.1) (t2 := (cd.2 j).2.1) hmr0 hvr1 hmd3 hvd4 hkr2.1 hkr2.2 hkd5.1 hkd5.2) hmr0.1 rfl ⟨q2_1, q1_238, q1_239, q2_0, q1_4⟩ dd_X2_fits ⟨Nat.le_of_ble_eq_true rfl, Nat.le_of_ble_eq_true rfl, rfl, rfl⟩ hl.1 rfl (Nat.le_of_ble_eq_true rfl) dX4_pairOf_87 ⟨Nat.le_of_ble_eq_true rfl, Nat.le_of_ble_eq_true rfl⟩) ?_
                  refine W.eq (g2 := F0 m 90 ls [.int (gb (fitB ((cr.2 i).2.2.1) ((cr.2 i).2.2.2) ((cd.2 j).2.2.1) ((cd.2 j).2.2.2)))]) rfl ?_
                  refine lv_if_eq (tgt := 109) hx hb dX4_pairOf_90 (by decide) (fun c90 => ?_) (fun c90 => ?_)
                  · have c90 := gb_f c90
                    refine lv_iinc (v := nI (j + 1)) (lv' := [(5, .int (nI (j + 1))), (6, .ref (ad j)), (0, .ref g), (1, .int (nI bb)), (2, .int (nI ah)), (3, .int (nI i)), (4, .ref (ar i))]) hx hb dX4_pairOf_109 hl (k := 6) rfl (nI_inc _) (by decide) rfl (fun ls hl => ?_)
                    refine lv_goto (tgt := 39) hx hb dX4_pairOf_112 (by decide) ?_
                    exact ih39 (j + 1) ah (by omega) (by omega) (by show _ = bR cr cd i + (cntL (fitP cr cd i) j + (if fitP cr cd i j then 1 else 0)); rw [show fitP cr cd i j = fitB (cr.2 i).2.2.1 (cr.2 i).2.2.2 (cd.2 j).2.2.1 (cd.2 j).2.2.2 from rfl, c90, h2]; rfl) ls (lv_sub hl [2, 3, 4, 5, 6, 0] rfl)
                  · have c90 := gb_t c90
                    refine lv_iload_n hx hb dX4_pairOf_93 rfl (lv_at hl 3 rfl) ?_
                    refine lv_iload_n hx hb dX4_pairOf_94 rfl (lv_at hl 2 rfl) ?_
                    refine lv_icmp_ne (tgt := 106) hx hb dX4_pairOf_95 (by decide) (fun c95 => ?_) (fun c95 => ?_)
                    · have c95 := mt (nI_eq (by omega) (by omega)).mpr c95
                      refine lv_iinc (v := nI (ah + 1)) (lv' := [(2, .int (nI (ah + 1))), (6, .ref (ad j)), (0, .ref g), (1, .int (nI bb)), (3, .int (nI i)), (4, .ref (ar i)), (5, .int (nI j))]) hx hb dX4_pairOf_106 hl (k := 3) rfl (nI_inc _) (by decide) rfl (fun ls hl => ?_)
                      refine lv_iinc (v := nI (j + 1)) (lv' := [(5, .int (nI (j + 1))), (2, .int (nI (ah + 1))), (6, .ref (ad j)), (0, .ref g), (1, .int (nI bb)), (3, .int (nI i)), (4, .ref (ar i))]) hx hb dX4_pairOf_109 hl (k := 6) rfl (nI_inc _) (by decide) rfl (fun ls hl => ?_)
                      refine lv_goto (tgt := 39) hx hb dX4_pairOf_112 (by decide) ?_
                      exact ih39 (j + 1) (ah + 1) (by omega) (by omega) (by show _ = bR cr cd i + (cntL (fitP cr cd i) j + (if fitP cr cd i j then 1 else 0)); rw [show fitP cr cd i j = fitB (cr.2 i).2.2.1 (cr.2 i).2.2.2 (cd.2 j).2.2.1 (cd.2 j).2.2.2 from rfl, c90, h2]; rfl) ls (lv_sub hl [3, 4, 1, 5, 6, 0] rfl)
                    · have c95 := (nI_eq (by omega) (by omega)).mp c95
                      refine lv_iload_n hx hb dX4_pairOf_98 rfl (lv_at hl 4 rfl) ?_
                      refine lv_bipush (v := nI 69) hx hb dX4_pairOf_99 (by decide) ?_
                      refine lv_imul hx hb dX4_pairOf_101 ?_
                      refine g_topi (y := nI (i * 69)) (nI_mul _ _) ?_
                      refine lv_iload hx hb dX4_pairOf_102 (lv_at hl 6 rfl) ?_
                      refine lv_iadd hx hb dX4_pairOf_104 ?_
                      refine g_topi (y := nI (i * 69 + j)) (nI_add _ _) ?_
                      refine g_reti hC hs ?_ dX4_pairOf_105
                      rw [pairP_some (j := i) (l := j) (by omega) (by omega) hgc_d c90 (by rw [← h2]; exact c95)]; rfl
          exact L39 70 0 ah (by omega) (by omega) h1 ls (lv_sub hl [2, 3, 4, 5, 1, 0] rfl)
  exact L4 70 0 0 (by omega) (by omega) rfl ls (lv_sub hl [2, 3, 1, 0] rfl)
set_option maxHeartbeats 4000000 in
set_option maxRecDepth 100000 in
theorem c_X4_kindOf (l : Launch) {G : gG} {T : gTy} {I : gI} {J : gJ} {Q : gR} {O : gO} {H : Heap} (hP : gP G T I J Q O H) {g r d mr md : Nat} {ck : Bool} {cr cd : CL} {Sr Sd : Nat → Prop} {x y u n u2 n2 : Nat} {t t2 : Int64} (hg : isGT T J Q O g r d mr md ck cr cd Sr Sd) (hmx : isMx T O x) (hmv : mxV O x t u n) (hmy : isMx T O y) (hmw : mxV O y t2 u2 n2) (b1 : u < 16) (b2 : n < 16) (b3 : u2 < 16) (b4 : n2 < 16) : Met l yX4_kindOf (gw yX4_kindOf cX4_kindOf 6 (some (.int))) ({ frames := 1, cells := 0, slots := 0, locals := 20 } : Room) (gPc G H [.ref g, .ref x, .ref y]) (gQp (some (.int (nI (if popc u = 1 ∧ popc u2 = 1 then (if u = n2 ∧ u2 = n then 4 else 3) else if popc u = mr ∧ popc u2 = md then 2 else if popc u = popc u2 then 1 else 0))))) 0 0 (fun _ => False) := by
  refine g_met [(0, .ref g), (1, .ref x), (2, .ref y)] (by decide) rfl (by exact Nat.le_of_ble_eq_true rfl) ?_
  intro p e s m below meth c hC hs ls hl
  have hx := hC.1.1
  have hb := hC.1.2.1
  have hg_lo8 := hg.2.2.2.2.2.2.2.2.1.2.2.2.2.2.2.2.2.1
  have hg_hi8 := hg.2.2.2.2.2.2.2.2.1.2.2.2.2.2.2.2.2.2
  have hg_lo9 := hg.2.2.2.2.2.2.2.2.2.1.2.2.2.2.2.2.2.2.1
  have hg_hi9 := hg.2.2.2.2.2.2.2.2.2.1.2.2.2.2.2.2.2.2.2
  have hg_ad := hg.2.2.2.2.2.2.2.2.2.2.2.2.2.2.2.2.1
  have hq1 : popc u ≤ 4 := (by have q : ∀ u, u < 16 → popc u ≤ 4 := (by decide +kernel); exact q u b1)
  have hq2 : popc u2 ≤ 4 := (by have q : ∀ u, u < 16 → popc u ≤ 4 := (by decide +kernel); exact q u2 b3)
  refine lv_aload_n hx hb dX4_kindOf_0 rfl (lv_at hl 1 rfl) ?_
  refine g_get hC hP hmx.1 rfl inX2 2 (by decide) q1_44 hmv.2.1 dX4_kindOf_1 ?_
  refine g_cp (g_rS (As := [.int (nI u)]) hC (c_J6_bitCount_0f7a4 l (u := u) (by first | assumption | omega)) ⟨q2_92, q2_179, q2_91, q1_8⟩ dd_J6_bitCount_0f7a4 ⟨Nat.le_of_ble_eq_true rfl, Nat.le_of_ble_eq_true rfl, rfl, rfl⟩ hl.1 rfl (Nat.le_of_ble_eq_true rfl) dX4_kindOf_4 ⟨Nat.le_of_ble_eq_true rfl, Nat.le_of_ble_eq_true rfl⟩) ?_
  refine W.eq (g2 := F0 m 7 ls [.int (nI (popc u))]) rfl ?_
  refine lv_istore_n (lv' := [(3, .int (nI (popc u))), (0, .ref g), (1, .ref x), (2, .ref y)]) hx hb dX4_kindOf_7 rfl hl (by decide) rfl (fun ls hl => ?_)
  refine lv_aload_n hx hb dX4_kindOf_8 rfl (lv_at hl 3 rfl) ?_
  refine g_get hC hP hmy.1 rfl inX2 2 (by decide) q1_44 hmw.2.1 dX4_kindOf_9 ?_
  refine g_cp (g_rS (As := [.int (nI u2)]) hC (c_J6_bitCount_0f7a4 l (u := u2) (by first | assumption | omega)) ⟨q2_92, q2_179, q2_91, q1_8⟩ dd_J6_bitCount_0f7a4 ⟨Nat.le_of_ble_eq_true rfl, Nat.le_of_ble_eq_true rfl, rfl, rfl⟩ hl.1 rfl (Nat.le_of_ble_eq_true rfl) dX4_kindOf_12 ⟨Nat.le_of_ble_eq_true rfl, Nat.le_of_ble_eq_true rfl⟩) ?_
  refine W.eq (g2 := F0 m 15 ls [.int (nI (popc u2))]) rfl ?_
  refine lv_istore (lv' := [(4, .int (nI (popc u2))), (3, .int (nI (popc u))), (0, .ref g), (1, .ref x), (2, .ref y)]) hx hb dX4_kindOf_15 hl (by decide) rfl (fun ls hl => ?_)
  refine lv_iload_n hx hb dX4_kindOf_17 rfl (lv_at hl 1 rfl) ?_
  refine lv_iconst (v := nI 1) hx hb dX4_kindOf_18 (by decide) ?_
  refine lv_icmp_ne (tgt := 68) hx hb dX4_kindOf_19 (by decide) (fun c19 => ?_) (fun c19 => ?_)
  · have c19 := mt (nI_eq (by omega) (by omega)).mpr c19
    refine lv_iload_n hx hb dX4_kindOf_68 rfl (lv_at hl 1 rfl) ?_
    refine lv_aload_n hx hb dX4_kindOf_69 rfl (lv_at hl 2 rfl) ?_
    refine g_get hC hP hg.1 rfl inX4 0 (by decide) q1_115 hg.2.1 dX4_kindOf_70 ?_
    refine g_get hC hP hg.2.2.2.2.2.2.2.2.1.1 rfl inX3 0 (by decide) q1_78 hg.2.2.2.2.2.2.2.2.1.2.1 dX4_kindOf_73 ?_
    refine lv_icmp_ne (tgt := 93) hx hb dX4_kindOf_76 (by decide) (fun c76 => ?_) (fun c76 => ?_)
    · have c76 := mt (nI_eq (by omega) (by omega)).mpr c76
      refine lv_iload_n hx hb dX4_kindOf_93 rfl (lv_at hl 1 rfl) ?_
      refine lv_iload hx hb dX4_kindOf_94 (lv_at hl 0 rfl) ?_
      refine lv_icmp_ne (tgt := 103) hx hb dX4_kindOf_96 (by decide) (fun c96 => ?_) (fun c96 => ?_)
      · have c96 := mt (nI_eq (by omega) (by omega)).mpr c96
        refine lv_iconst (v := nI 0) hx hb dX4_kindOf_103 (by decide) ?_
        refine g_reti hC hs ?_ dX4_kindOf_104
        (repeat' split) <;> first | rfl | (exfalso; omega) | (exfalso; simp_all)
      · have c96 := (nI_eq (by omega) (by omega)).mp c96
        refine lv_iconst (v := nI 1) hx hb dX4_kindOf_99 (by decide) ?_
        refine lv_goto (tgt := 104) hx hb dX4_kindOf_100 (by decide) ?_
        refine g_reti hC hs ?_ dX4_kindOf_104
        (repeat' split) <;> first | rfl | (exfalso; omega) | (exfalso; simp_all)
    · have c76 := (nI_eq (by omega) (by omega)).mp c76
      refine lv_iload hx hb dX4_kindOf_79 (lv_at hl 0 rfl) ?_
      refine lv_aload_n hx hb dX4_kindOf_81 rfl (lv_at hl 2 rfl) ?_
      refine g_get hC hP hg.1 rfl inX4 1 (by decide) q1_116 hg.2.2.1 dX4_kindOf_82 ?_
      refine g_get hC hP hg.2.2.2.2.2.2.2.2.2.1.1 rfl inX3 0 (by decide) q1_78 hg.2.2.2.2.2.2.2.2.2.1.2.1 dX4_kindOf_85 ?_
      refine lv_icmp_ne (tgt := 93) hx hb dX4_kindOf_88 (by decide) (fun c88 => ?_) (fun c88 => ?_)
      · have c88 := mt (nI_eq (by omega) (by omega)).mpr c88
        refine lv_iload_n hx hb dX4_kindOf_93 rfl (lv_at hl 1 rfl) ?_
        refine lv_iload hx hb dX4_kindOf_94 (lv_at hl 0 rfl) ?_
        refine lv_icmp_ne (tgt := 103) hx hb dX4_kindOf_96 (by decide) (fun c96 => ?_) (fun c96 => ?_)
        · have c96 := mt (nI_eq (by omega) (by omega)).mpr c96
          refine lv_iconst (v := nI 0) hx hb dX4_kindOf_103 (by decide) ?_
          refine g_reti hC hs ?_ dX4_kindOf_104
          (repeat' split) <;> first | rfl | (exfalso; omega) | (exfalso; simp_all)
        · have c96 := (nI_eq (by omega) (by omega)).mp c96
          refine lv_iconst (v := nI 1) hx hb dX4_kindOf_99 (by decide) ?_
          refine lv_goto (tgt := 104) hx hb dX4_kindOf_100 (by decide) ?_
          refine g_reti hC hs ?_ dX4_kindOf_104
          (repeat' split) <;> first | rfl | (exfalso; omega) | (exfalso; simp_all)
      · have c88 := (nI_eq (by omega) (by omega)).mp c88
        refine lv_iconst (v := nI 2) hx hb dX4_kindOf_91 (by decide) ?_
        refine g_reti hC hs ?_ dX4_kindOf_92
        (repeat' split) <;> first | rfl | (exfalso; omega) | (exfalso; simp_all)
  · have c19 := (nI_eq (by omega) (by omega)).mp c19
    refine lv_iload hx hb dX4_kindOf_22 (lv_at hl 0 rfl) ?_
    refine lv_iconst (v := nI 1) hx hb dX4_kindOf_24 (by decide) ?_
    refine lv_icmp_ne (tgt := 68) hx hb dX4_kindOf_25 (by decide) (fun c25 => ?_) (fun c25 => ?_)
    · have c25 := mt (nI_eq (by omega) (by omega)).mpr c25
      refine lv_iload_n hx hb dX4_kindOf_68 rfl (lv_at hl 1 rfl) ?_
      refine lv_aload_n hx hb dX4_kindOf_69 rfl (lv_at hl 2 rfl) ?_
      refine g_get hC hP hg.1 rfl inX4 0 (by decide) q1_115 hg.2.1 dX4_kindOf_70 ?_
      refine g_get hC hP hg.2.2.2.2.2.2.2.2.1.1 rfl inX3 0 (by decide) q1_78 hg.2.2.2.2.2.2.2.2.1.2.1 dX4_kindOf_73 ?_
      refine lv_icmp_ne (tgt := 93) hx hb dX4_kindOf_76 (by decide) (fun c76 => ?_) (fun c76 => ?_)
      · have c76 := mt (nI_eq (by omega) (by omega)).mpr c76
        refine lv_iload_n hx hb dX4_kindOf_93 rfl (lv_at hl 1 rfl) ?_
        refine lv_iload hx hb dX4_kindOf_94 (lv_at hl 0 rfl) ?_
        refine lv_icmp_ne (tgt := 103) hx hb dX4_kindOf_96 (by decide) (fun c96 => ?_) (fun c96 => ?_)
        · have c96 := mt (nI_eq (by omega) (by omega)).mpr c96
          refine lv_iconst (v := nI 0) hx hb dX4_kindOf_103 (by decide) ?_
          refine g_reti hC hs ?_ dX4_kindOf_104
          (repeat' split) <;> first | rfl | (exfalso; omega) | (exfalso; simp_all)
        · have c96 := (nI_eq (by omega) (by omega)).mp c96
          refine lv_iconst (v := nI 1) hx hb dX4_kindOf_99 (by decide) ?_
          refine lv_goto (tgt := 104) hx hb dX4_kindOf_100 (by decide) ?_
          refine g_reti hC hs ?_ dX4_kindOf_104
          (repeat' split) <;> first | rfl | (exfalso; omega) | (exfalso; simp_all)
      · have c76 := (nI_eq (by omega) (by omega)).mp c76
        refine lv_iload hx hb dX4_kindOf_79 (lv_at hl 0 rfl) ?_
        refine lv_aload_n hx hb dX4_kindOf_81 rfl (lv_at hl 2 rfl) ?_
        refine g_get hC hP hg.1 rfl inX4 1 (by decide) q1_116 hg.2.2.1 dX4_kindOf_82 ?_
        refine g_get hC hP hg.2.2.2.2.2.2.2.2.2.1.1 rfl inX3 0 (by decide) q1_78 hg.2.2.2.2.2.2.2.2.2.1.2.1 dX4_kindOf_85 ?_
        refine lv_icmp_ne (tgt := 93) hx hb dX4_kindOf_88 (by decide) (fun c88 => ?_) (fun c88 => ?_)
        · have c88 := mt (nI_eq (by omega) (by omega)).mpr c88
          refine lv_iload_n hx hb dX4_kindOf_93 rfl (lv_at hl 1 rfl) ?_
          refine lv_iload hx hb dX4_kindOf_94 (lv_at hl 0 rfl) ?_
          refine lv_icmp_ne (tgt := 103) hx hb dX4_kindOf_96 (by decide) (fun c96 => ?_) (fun c96 => ?_)
          · have c96 := mt (nI_eq (by omega) (by omega)).mpr c96
            refine lv_iconst (v := nI 0) hx hb dX4_kindOf_103 (by decide) ?_
            refine g_reti hC hs ?_ dX4_kindOf_104
            (repeat' split) <;> first | rfl | (exfalso; omega) | (exfalso; simp_all)
          · have c96 := (nI_eq (by omega) (by omega)).mp c96
            refine lv_iconst (v := nI 1) hx hb dX4_kindOf_99 (by decide) ?_
            refine lv_goto (tgt := 104) hx hb dX4_kindOf_100 (by decide) ?_
            refine g_reti hC hs ?_ dX4_kindOf_104
            (repeat' split) <;> first | rfl | (exfalso; omega) | (exfalso; simp_all)
        · have c88 := (nI_eq (by omega) (by omega)).mp c88
          refine lv_iconst (v := nI 2) hx hb dX4_kindOf_91 (by decide) ?_
          refine g_reti hC hs ?_ dX4_kindOf_92
          (repeat' split) <;> first | rfl | (exfalso; omega) | (exfalso; simp_all)
    · have c25 := (nI_eq (by omega) (by omega)).mp c25
      refine lv_aload_n hx hb dX4_kindOf_28 rfl (lv_at hl 3 rfl) ?_
      refine g_get hC hP hmx.1 rfl inX2 2 (by decide) q1_44 hmv.2.1 dX4_kindOf_29 ?_
      refine lv_aload_n hx hb dX4_kindOf_32 rfl (lv_at hl 4 rfl) ?_
      refine g_get hC hP hmy.1 rfl inX2 3 (by decide) q1_47 hmw.2.2 dX4_kindOf_33 ?_
      refine lv_icmp_ne (tgt := 54) hx hb dX4_kindOf_36 (by decide) (fun c36 => ?_) (fun c36 => ?_)
      · have c36 := mt (nI_eq (by omega) (by omega)).mpr c36
        refine lv_iconst (v := nI 0) hx hb dX4_kindOf_54 (by decide) ?_
        refine lv_istore (lv' := [(5, .int (nI 0)), (4, .int (nI (popc u2))), (3, .int (nI (popc u))), (0, .ref g), (1, .ref x), (2, .ref y)]) hx hb dX4_kindOf_55 hl (by decide) rfl (fun ls hl => ?_)
        refine lv_iload hx hb dX4_kindOf_57 (lv_at hl 0 rfl) ?_
        refine lv_if_eq (tgt := 66) hx hb dX4_kindOf_59 (by decide) (fun _ => ?_) (fun q => absurd (by decide) q)
        refine lv_iconst (v := nI 3) hx hb dX4_kindOf_66 (by decide) ?_
        refine g_reti hC hs ?_ dX4_kindOf_67
        (repeat' split) <;> first | rfl | (exfalso; omega) | (exfalso; simp_all)
      · have c36 := (nI_eq (by omega) (by omega)).mp c36
        refine lv_aload_n hx hb dX4_kindOf_39 rfl (lv_at hl 4 rfl) ?_
        refine g_get hC hP hmy.1 rfl inX2 2 (by decide) q1_44 hmw.2.1 dX4_kindOf_40 ?_
        refine lv_aload_n hx hb dX4_kindOf_43 rfl (lv_at hl 3 rfl) ?_
        refine g_get hC hP hmx.1 rfl inX2 3 (by decide) q1_47 hmv.2.2 dX4_kindOf_44 ?_
        refine lv_icmp_ne (tgt := 54) hx hb dX4_kindOf_47 (by decide) (fun c47 => ?_) (fun c47 => ?_)
        · have c47 := mt (nI_eq (by omega) (by omega)).mpr c47
          refine lv_iconst (v := nI 0) hx hb dX4_kindOf_54 (by decide) ?_
          refine lv_istore (lv' := [(5, .int (nI 0)), (4, .int (nI (popc u2))), (3, .int (nI (popc u))), (0, .ref g), (1, .ref x), (2, .ref y)]) hx hb dX4_kindOf_55 hl (by decide) rfl (fun ls hl => ?_)
          refine lv_iload hx hb dX4_kindOf_57 (lv_at hl 0 rfl) ?_
          refine lv_if_eq (tgt := 66) hx hb dX4_kindOf_59 (by decide) (fun _ => ?_) (fun q => absurd (by decide) q)
          refine lv_iconst (v := nI 3) hx hb dX4_kindOf_66 (by decide) ?_
          refine g_reti hC hs ?_ dX4_kindOf_67
          (repeat' split) <;> first | rfl | (exfalso; omega) | (exfalso; simp_all)
        · have c47 := (nI_eq (by omega) (by omega)).mp c47
          refine lv_iconst (v := nI 1) hx hb dX4_kindOf_50 (by decide) ?_
          refine lv_goto (tgt := 55) hx hb dX4_kindOf_51 (by decide) ?_
          refine lv_istore (lv' := [(5, .int (nI 1)), (4, .int (nI (popc u2))), (3, .int (nI (popc u))), (0, .ref g), (1, .ref x), (2, .ref y)]) hx hb dX4_kindOf_55 hl (by decide) rfl (fun ls hl => ?_)
          refine lv_iload hx hb dX4_kindOf_57 (lv_at hl 0 rfl) ?_
          refine lv_if_eq (tgt := 66) hx hb dX4_kindOf_59 (by decide) (fun q => absurd q (by decide)) (fun _ => ?_)
          refine lv_iconst (v := nI 4) hx hb dX4_kindOf_62 (by decide) ?_
          refine lv_goto (tgt := 67) hx hb dX4_kindOf_63 (by decide) ?_
          refine g_reti hC hs ?_ dX4_kindOf_67
          (repeat' split) <;> first | rfl | (exfalso; omega) | (exfalso; simp_all)
