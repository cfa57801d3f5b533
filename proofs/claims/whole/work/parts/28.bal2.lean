set_option maxHeartbeats 4000000 in
set_option maxRecDepth 100000 in
theorem c_X4_balancesOf (l : Launch) {G : gG} {T : gTy} {I : gI} {J : gJ} {Q : gR} {O : gO} {H : Heap} (hP : gP G T I J Q O H) {g r d mr md : Nat} {ck : Bool} {cr cd : CL} {Sr Sd : Nat → Prop} {fr sr fd sd : Nat} {ar ad : Nat → Nat} {j e2 : Nat} (hg : isGT T J Q O g r d mr md ck cr cd Sr Sd) (hgc : gtC T J Q O r d fr sr fd sd ar ad cr cd) (hj : j < cr.1) (he : e2 ≤ 69) : Met l yX4_balancesOf (gw yX4_balancesOf cX4_balancesOf 7 (some (.int))) ({ frames := 1, cells := 0, slots := 0, locals := 21 } : Room) (gPc G H [.ref g, .ref (ar j), .int (nI e2)]) (gQp (some (.int (nI (cntL (fitP cr cd j) (min cd.1 e2)))))) 0 0 (fun _ => False) := by
  refine g_met [(0, .ref g), (1, .ref (ar j)), (2, .int (nI e2))] (by decide) rfl (by exact Nat.le_of_ble_eq_true rfl) ?_
  intro p e s m below meth c hC hs ls hl
  have hx := hC.1.1
  have hb := hC.1.2.1
  have hg_lo8 := hg.2.2.2.2.2.2.2.2.1.2.2.2.2.2.2.2.2.1
  have hg_hi8 := hg.2.2.2.2.2.2.2.2.1.2.2.2.2.2.2.2.2.2
  have hg_lo9 := hg.2.2.2.2.2.2.2.2.2.1.2.2.2.2.2.2.2.2.1
  have hg_hi9 := hg.2.2.2.2.2.2.2.2.2.1.2.2.2.2.2.2.2.2.2
  have hg_ad := hg.2.2.2.2.2.2.2.2.2.2.2.2.2.2.2.2.1
  have hgc_c0 := hgc.1.2.2.1
  have hgc_f0 := hgc.1.2.2.2.1
  have hgc_c1 := hgc.2.1.2.2.1
  have hgc_f1 := hgc.2.1.2.2.2.1
  have hgc_r := hgc.2.2.2.2.2.2.1
  have hgc_d := hgc.2.2.2.2.2.2.2
  refine lv_aload_n hx hb dX4_balancesOf_0 rfl (lv_at hl 0 rfl) ?_
  refine g_get hC hP hg.1 rfl inX4 1 (by decide) q1_116 hg.2.2.1 dX4_balancesOf_1 ?_
  refine g_get hC hP hg.2.2.2.2.2.2.2.2.2.1.1 rfl inX3 1 (by decide) q1_80 hg.2.2.2.2.2.2.2.2.2.1.2.2.1 dX4_balancesOf_4 ?_
  refine lv_astore_n (lv' := [(3, .ref (d + 1)), (0, .ref g), (1, .ref (ar j)), (2, .int (nI e2))]) hx hb dX4_balancesOf_7 rfl hl (by decide) rfl (fun ls hl => ?_)
  refine lv_iconst (v := nI 0) hx hb dX4_balancesOf_8 (by decide) ?_
  refine lv_istore (lv' := [(4, .int (nI 0)), (3, .ref (d + 1)), (0, .ref g), (1, .ref (ar j)), (2, .int (nI e2))]) hx hb dX4_balancesOf_9 hl (by decide) rfl (fun ls hl => ?_)
  refine lv_iconst (v := nI 0) hx hb dX4_balancesOf_11 (by decide) ?_
  refine lv_istore (lv' := [(5, .int (nI 0)), (4, .int (nI 0)), (3, .ref (d + 1)), (0, .ref g), (1, .ref (ar j)), (2, .int (nI e2))]) hx hb dX4_balancesOf_12 hl (by decide) rfl (fun ls hl => ?_)
  have L14 : ∀ (n14 : Nat) (i : Nat) (nb : Nat), 70 ≤ n14 + i → (i ≤ cd.1 ∧ i ≤ e2) → (nb = cntL (fitP cr cd j) i) → ∀ ls : Array Slot, lv_has ls 7 [(0, .ref g), (1, .ref (ar j)), (2, .int (nI e2)), (3, .ref (d + 1)), (4, .int (nI nb)), (5, .int (nI i))] → W p l e ({ frames := 1, cells := 0, slots := 0, locals := 21 } : Room) s m [.ref g, .ref (ar j), .int (nI e2)].toArray below meth c H [] 0 0 (MQ below (gQp (some (.int (nI (cntL (fitP cr cd j) (min cd.1 e2)))))) [.ref g, .ref (ar j), .int (nI e2)].toArray s 0 0 (fun _ => False)) (F0 m 14 ls []) := by
    intro n14
    induction n14 with
    | zero => intro i nb hn14 hi h1; exact absurd hn14 (by omega)
    | succ n14 ih14 =>
      intro i nb hn14 hi h1 ls hl
      refine lv_iload hx hb dX4_balancesOf_14 (lv_at hl 5 rfl) ?_
      refine lv_aload_n hx hb dX4_balancesOf_16 rfl (lv_at hl 3 rfl) ?_
      refine g_get hC hP hg.2.2.2.2.2.2.2.2.2.2.2.2.2.1.1 rfl inX0 0 (by decide) q1_62 hgc.2.1.1 dX4_balancesOf_17 ?_
      refine lv_icmp_ge (tgt := 64) hx hb dX4_balancesOf_20 (by decide) (fun c20 => ?_) (fun c20 => ?_)
      · have c20 := (nI_leI (by omega) (by omega)).mp c20
        refine lv_iload hx hb dX4_balancesOf_64 (lv_at hl 4 rfl) ?_
        refine g_reti hC hs ?_ dX4_balancesOf_66
        rw [h1, show min cd.1 e2 = i from by omega]
      · have c20 := mt (nI_leI (by omega) (by omega)).mpr c20
        refine lv_iload hx hb dX4_balancesOf_23 (lv_at hl 5 rfl) ?_
        refine lv_iload_n hx hb dX4_balancesOf_25 rfl (lv_at hl 2 rfl) ?_
        refine lv_icmp_ge (tgt := 64) hx hb dX4_balancesOf_26 (by decide) (fun c26 => ?_) (fun c26 => ?_)
        · have c26 := (nI_leI (by omega) (by omega)).mp c26
          refine lv_iload hx hb dX4_balancesOf_64 (lv_at hl 4 rfl) ?_
          refine g_reti hC hs ?_ dX4_balancesOf_66
          rw [h1, show min cd.1 e2 = i from by omega]
        · have c26 := mt (nI_leI (by omega) (by omega)).mpr c26
          have hmd0 := (hgc.2.1.2.2.2.2.2.2.1 i (by omega)).1
          have hvd1 := (hgc.2.2.2.1 i (by omega)).2
          have hkd2 := hgc.2.2.2.2.2.1 i (by omega)
          have hmr3 := (hgc.1.2.2.2.2.2.2.1 j (by omega)).1
          have hvr4 := (hgc.2.2.1 j (by omega)).2
          have hkr5 := hgc.2.2.2.2.1 j (by omega)
          refine lv_aload_n hx hb dX4_balancesOf_29 rfl (lv_at hl 3 rfl) ?_
          refine lv_iload hx hb dX4_balancesOf_30 (lv_at hl 5 rfl) ?_
          refine g_cp (g_rV (As := [.int (nI i)]) hC hP (c_X0_mixAt_in l hP (k := d + 1) (cnt := cd.1) (fill := fd) (sp := sd) (j := i) (ad := ad) hg.2.2.2.2.2.2.2.2.2.2.2.2.2.1 hgc.2.1 (by first | assumption | omega)) hg.2.2.2.2.2.2.2.2.2.2.2.2.2.1.1 rfl ⟨q2_153, q2_150, q2_151, q2_152, q1_3⟩ dd_X0_mixAt ⟨Nat.le_of_ble_eq_true rfl, Nat.le_of_ble_eq_true rfl, rfl, rfl⟩ hl.1 rfl (Nat.le_of_ble_eq_true rfl) dX4_balancesOf_32 ⟨Nat.le_of_ble_eq_true rfl, Nat.le_of_ble_eq_true rfl⟩) ?_
          refine W.eq (g2 := F0 m 35 ls [.ref (ad i)]) rfl ?_
          refine lv_astore (lv' := [(6, .ref (ad i)), (0, .ref g), (1, .ref (ar j)), (2, .int (nI e2)), (3, .ref (d + 1)), (4, .int (nI nb)), (5, .int (nI i))]) hx hb dX4_balancesOf_35 hl (by decide) rfl (fun ls hl => ?_)
          refine lv_aload_n hx hb dX4_balancesOf_37 rfl (lv_at hl 2 rfl) ?_
          refine lv_ifnull hx hb dX4_balancesOf_38 ?_
          refine lv_aload hx hb dX4_balancesOf_41 (lv_at hl 0 rfl) ?_
          refine lv_ifnull hx hb dX4_balancesOf_43 ?_
          refine lv_aload_n hx hb dX4_balancesOf_46 rfl (lv_at hl 2 rfl) ?_
          refine lv_aload hx hb dX4_balancesOf_47 (lv_at hl 0 rfl) ?_
          refine g_cp (g_rV (As := [.ref (ad i)]) hC hP (c_X2_fits l hP (x := ar j) (y := ad i) (u := (cr.2 j).2.2.1) (n := (cr.2 j).2.2.2) (u2 := (cd.2 i).2.2.1) (n2 := (cd.2 i).2.2.2) (t := (cr.2 j).2.1) (t2 := (cd.2 i).2.1) hmr3 hvr4 hmd0 hvd1 hkr5.1 hkr5.2 hkd2.1 hkd2.2) hmr3.1 rfl ⟨q2_1, q1_238, q1_239, q2_0, q1_4⟩ dd_X2_fits ⟨Nat.le_of_ble_eq_true rfl, Nat.le_of_ble_eq_true rfl, rfl, rfl⟩ hl.1 rfl (Nat.le_of_ble_eq_true rfl) dX4_balancesOf_49 ⟨Nat.le_of_ble_eq_true rfl, Nat.le_of_ble_eq_true rfl⟩) ?_
          refine W.eq (g2 := F0 m 52 ls [.int (gb (fitB ((cr.2 j).2.2.1) ((cr.2 j).2.2.2) ((cd.2 i).2.2.1) ((cd.2 i).2.2.2)))]) rfl ?_
          refine lv_if_eq (tgt := 58) hx hb dX4_balancesOf_52 (by decide) (fun c52 => ?_) (fun c52 => ?_)
          · have c52 := gb_f c52
            refine lv_iinc (v := nI (i + 1)) (lv' := [(5, .int (nI (i + 1))), (6, .ref (ad i)), (0, .ref g), (1, .ref (ar j)), (2, .int (nI e2)), (3, .ref (d + 1)), (4, .int (nI nb))]) hx hb dX4_balancesOf_58 hl (k := 6) rfl (nI_inc _) (by decide) rfl (fun ls hl => ?_)
            refine lv_goto (tgt := 14) hx hb dX4_balancesOf_61 (by decide) ?_
            exact ih14 (i + 1) nb (by omega) (by omega) (by show _ = cntL (fitP cr cd j) i + (if fitP cr cd j i then 1 else 0); rw [show fitP cr cd j i = fitB (cr.2 j).2.2.1 (cr.2 j).2.2.2 (cd.2 i).2.2.1 (cd.2 i).2.2.2 from rfl, c52, h1]; rfl) ls (lv_sub hl [2, 3, 4, 5, 6, 0] rfl)
          · have c52 := gb_t c52
            refine lv_iinc (v := nI (nb + 1)) (lv' := [(4, .int (nI (nb + 1))), (6, .ref (ad i)), (0, .ref g), (1, .ref (ar j)), (2, .int (nI e2)), (3, .ref (d + 1)), (5, .int (nI i))]) hx hb dX4_balancesOf_55 hl (k := 5) rfl (nI_inc _) (by decide) rfl (fun ls hl => ?_)
            refine lv_iinc (v := nI (i + 1)) (lv' := [(5, .int (nI (i + 1))), (4, .int (nI (nb + 1))), (6, .ref (ad i)), (0, .ref g), (1, .ref (ar j)), (2, .int (nI e2)), (3, .ref (d + 1))]) hx hb dX4_balancesOf_58 hl (k := 6) rfl (nI_inc _) (by decide) rfl (fun ls hl => ?_)
            refine lv_goto (tgt := 14) hx hb dX4_balancesOf_61 (by decide) ?_
            exact ih14 (i + 1) (nb + 1) (by omega) (by omega) (by show _ = cntL (fitP cr cd j) i + (if fitP cr cd j i then 1 else 0); rw [show fitP cr cd j i = fitB (cr.2 j).2.2.1 (cr.2 j).2.2.2 (cd.2 i).2.2.1 (cd.2 i).2.2.2 from rfl, c52, h1]; rfl) ls (lv_sub hl [3, 4, 5, 6, 1, 0] rfl)
  exact L14 70 0 0 (by omega) (by omega) rfl ls (lv_sub hl [3, 4, 5, 2, 1, 0] rfl)
set_option maxHeartbeats 4000000 in
set_option maxRecDepth 100000 in
theorem c_X4_balancesBefore (l : Launch) {G : gG} {T : gTy} {I : gI} {J : gJ} {Q : gR} {O : gO} {H : Heap} (hP : gP G T I J Q O H) {g r d mr md : Nat} {ck : Bool} {cr cd : CL} {Sr Sd : Nat → Prop} {fr sr fd sd : Nat} {ar ad : Nat → Nat} {a e2 : Nat} (hg : isGT T J Q O g r d mr md ck cr cd Sr Sd) (hgc : gtC T J Q O r d fr sr fd sd ar ad cr cd) (ha : a ≤ 69) (he : e2 ≤ 69) : Met l yX4_balancesBefore (gw yX4_balancesBefore cX4_balancesBefore 6 (some (.int))) ({ frames := 2, cells := 0, slots := 0, locals := 47 } : Room) (gPc G H [.ref g, .int (nI a), .int (nI e2)]) (gQp (some (.int (nI (bB cr cd a e2 (min cr.1 (a + 1))))))) 0 0 (fun _ => False) := by
  refine g_met [(0, .ref g), (1, .int (nI a)), (2, .int (nI e2))] (by decide) rfl (by exact Nat.le_of_ble_eq_true rfl) ?_
  intro p e s m below meth c hC hs ls hl
  have hx := hC.1.1
  have hb := hC.1.2.1
  have hg_lo8 := hg.2.2.2.2.2.2.2.2.1.2.2.2.2.2.2.2.2.1
  have hg_hi8 := hg.2.2.2.2.2.2.2.2.1.2.2.2.2.2.2.2.2.2
  have hg_lo9 := hg.2.2.2.2.2.2.2.2.2.1.2.2.2.2.2.2.2.2.1
  have hg_hi9 := hg.2.2.2.2.2.2.2.2.2.1.2.2.2.2.2.2.2.2.2
  have hg_ad := hg.2.2.2.2.2.2.2.2.2.2.2.2.2.2.2.2.1
  have hgc_c0 := hgc.1.2.2.1
  have hgc_f0 := hgc.1.2.2.2.1
  have hgc_c1 := hgc.2.1.2.2.1
  have hgc_f1 := hgc.2.1.2.2.2.1
  have hgc_r := hgc.2.2.2.2.2.2.1
  have hgc_d := hgc.2.2.2.2.2.2.2
  refine lv_iconst (v := nI 0) hx hb dX4_balancesBefore_0 (by decide) ?_
  refine lv_istore_n (lv' := [(3, .int (nI 0)), (0, .ref g), (1, .int (nI a)), (2, .int (nI e2))]) hx hb dX4_balancesBefore_1 rfl hl (by decide) rfl (fun ls hl => ?_)
  refine lv_iconst (v := nI 0) hx hb dX4_balancesBefore_2 (by decide) ?_
  refine lv_istore (lv' := [(4, .int (nI 0)), (3, .int (nI 0)), (0, .ref g), (1, .int (nI a)), (2, .int (nI e2))]) hx hb dX4_balancesBefore_3 hl (by decide) rfl (fun ls hl => ?_)
  have L5 : ∀ (n5 : Nat) (i : Nat) (nb : Nat), 72 ≤ n5 + i → (i ≤ cr.1 ∧ i ≤ a + 1) → (nb = bB cr cd a e2 i) → ∀ ls : Array Slot, lv_has ls 6 [(0, .ref g), (1, .int (nI a)), (2, .int (nI e2)), (3, .int (nI nb)), (4, .int (nI i))] → W p l e ({ frames := 2, cells := 0, slots := 0, locals := 47 } : Room) s m [.ref g, .int (nI a), .int (nI e2)].toArray below meth c H [] 0 0 (MQ below (gQp (some (.int (nI (bB cr cd a e2 (min cr.1 (a + 1))))))) [.ref g, .int (nI a), .int (nI e2)].toArray s 0 0 (fun _ => False)) (F0 m 5 ls []) := by
    intro n5
    induction n5 with
    | zero => intro i nb hn5 hi h1; exact absurd hn5 (by omega)
    | succ n5 ih5 =>
      intro i nb hn5 hi h1 ls hl
      refine lv_iload hx hb dX4_balancesBefore_5 (lv_at hl 4 rfl) ?_
      refine lv_aload_n hx hb dX4_balancesBefore_7 rfl (lv_at hl 0 rfl) ?_
      refine g_get hC hP hg.1 rfl inX4 0 (by decide) q1_115 hg.2.1 dX4_balancesBefore_8 ?_
      refine g_get hC hP hg.2.2.2.2.2.2.2.2.1.1 rfl inX3 1 (by decide) q1_80 hg.2.2.2.2.2.2.2.2.1.2.2.1 dX4_balancesBefore_11 ?_
      refine g_get hC hP hg.2.2.2.2.2.2.2.2.2.2.2.2.1.1 rfl inX0 0 (by decide) q1_62 hgc.1.1 dX4_balancesBefore_14 ?_
      refine lv_icmp_ge (tgt := 67) hx hb dX4_balancesBefore_17 (by decide) (fun c17 => ?_) (fun c17 => ?_)
      · have c17 := (nI_leI (by omega) (by omega)).mp c17
        refine lv_iload_n hx hb dX4_balancesBefore_67 rfl (lv_at hl 3 rfl) ?_
        refine g_reti hC hs ?_ dX4_balancesBefore_68
        rw [h1, show min cr.1 (a + 1) = i from by omega]
      · have c17 := mt (nI_leI (by omega) (by omega)).mpr c17
        refine lv_iload hx hb dX4_balancesBefore_20 (lv_at hl 4 rfl) ?_
        refine lv_iload_n hx hb dX4_balancesBefore_22 rfl (lv_at hl 1 rfl) ?_
        refine lv_icmp_gt (tgt := 67) hx hb dX4_balancesBefore_23 (by decide) (fun c23 => ?_) (fun c23 => ?_)
        · have c23 := (nI_ltI (by omega) (by omega)).mp c23
          refine lv_iload_n hx hb dX4_balancesBefore_67 rfl (lv_at hl 3 rfl) ?_
          refine g_reti hC hs ?_ dX4_balancesBefore_68
          rw [h1, show min cr.1 (a + 1) = i from by omega]
        · have c23 := mt (nI_ltI (by omega) (by omega)).mpr c23
          refine lv_iload hx hb dX4_balancesBefore_26 (lv_at hl 4 rfl) ?_
          refine lv_iload_n hx hb dX4_balancesBefore_28 rfl (lv_at hl 1 rfl) ?_
          refine lv_icmp_ge (tgt := 37) hx hb dX4_balancesBefore_29 (by decide) (fun c29 => ?_) (fun c29 => ?_)
          · have c29 := (nI_leI (by omega) (by omega)).mp c29
            refine lv_iload_n hx hb dX4_balancesBefore_37 rfl (lv_at hl 2 rfl) ?_
            refine lv_istore (lv' := [(5, .int (nI e2)), (0, .ref g), (1, .int (nI a)), (2, .int (nI e2)), (3, .int (nI nb)), (4, .int (nI i))]) hx hb dX4_balancesBefore_38 hl (by decide) rfl (fun ls hl => ?_)
            refine lv_iload_n hx hb dX4_balancesBefore_40 rfl (lv_at hl 4 rfl) ?_
            refine lv_aload_n hx hb dX4_balancesBefore_41 rfl (lv_at hl 1 rfl) ?_
            refine lv_aload_n hx hb dX4_balancesBefore_42 rfl (lv_at hl 1 rfl) ?_
            refine g_get hC hP hg.1 rfl inX4 0 (by decide) q1_115 hg.2.1 dX4_balancesBefore_43 ?_
            refine g_get hC hP hg.2.2.2.2.2.2.2.2.1.1 rfl inX3 1 (by decide) q1_80 hg.2.2.2.2.2.2.2.2.1.2.2.1 dX4_balancesBefore_46 ?_
            refine lv_iload hx hb dX4_balancesBefore_49 (lv_at hl 5 rfl) ?_
            refine g_cp (g_rV (As := [.int (nI i)]) hC hP (c_X0_mixAt_in l hP (k := r + 1) (cnt := cr.1) (fill := fr) (sp := sr) (j := i) (ad := ar) hg.2.2.2.2.2.2.2.2.2.2.2.2.1 hgc.1 (by first | assumption | omega)) hg.2.2.2.2.2.2.2.2.2.2.2.2.1.1 rfl ⟨q2_153, q2_150, q2_151, q2_152, q1_3⟩ dd_X0_mixAt ⟨Nat.le_of_ble_eq_true rfl, Nat.le_of_ble_eq_true rfl, rfl, rfl⟩ hl.1 rfl (Nat.le_of_ble_eq_true rfl) dX4_balancesBefore_51 ⟨Nat.le_of_ble_eq_true rfl, Nat.le_of_ble_eq_true rfl⟩) ?_
            refine W.eq (g2 := F0 m 54 ls [.ref (ar i), .ref g, .int (nI nb)]) rfl ?_
            refine lv_iload hx hb dX4_balancesBefore_54 (lv_at hl 0 rfl) ?_
            refine g_cp (g_rV (As := [.ref (ar i), .int (nI e2)]) hC hP (c_X4_balancesOf l hP (g := g) (fr := fr) (sr := sr) (fd := fd) (sd := sd) (ar := ar) (ad := ad) (j := i) (e2 := e2) (by first | assumption | omega) (by first | assumption | omega) (by first | assumption | omega) (by first | assumption | omega)) hg.1 rfl ⟨q2_166, q2_163, q2_165, qs_21, q1_1⟩ dd_X4_balancesOf ⟨Nat.le_of_ble_eq_true rfl, Nat.le_of_ble_eq_true rfl, rfl, rfl⟩ hl.1 rfl (Nat.le_of_ble_eq_true rfl) dX4_balancesBefore_56 ⟨Nat.le_of_ble_eq_true rfl, Nat.le_of_ble_eq_true rfl⟩) ?_
            refine W.eq (g2 := F0 m 59 ls [.int (nI (cntL (fitP cr cd i) (min cd.1 e2))), .int (nI nb)]) rfl ?_
            refine lv_iadd hx hb dX4_balancesBefore_59 ?_
            refine g_topi (y := nI (nb + (cntL (fitP cr cd i) (min cd.1 e2)))) (nI_add _ _) ?_
            refine lv_istore_n (lv' := [(3, .int (nI (nb + (cntL (fitP cr cd i) (min cd.1 e2))))), (5, .int (nI e2)), (0, .ref g), (1, .int (nI a)), (2, .int (nI e2)), (4, .int (nI i))]) hx hb dX4_balancesBefore_60 rfl hl (by decide) rfl (fun ls hl => ?_)
            refine lv_iinc (v := nI (i + 1)) (lv' := [(4, .int (nI (i + 1))), (3, .int (nI (nb + (cntL (fitP cr cd i) (min cd.1 e2))))), (5, .int (nI e2)), (0, .ref g), (1, .int (nI a)), (2, .int (nI e2))]) hx hb dX4_balancesBefore_61 hl (k := 5) rfl (nI_inc _) (by decide) rfl (fun ls hl => ?_)
            refine lv_goto (tgt := 5) hx hb dX4_balancesBefore_64 (by decide) ?_
            exact ih5 (i + 1) (nb + (cntL (fitP cr cd i) (min cd.1 e2))) (by omega) (by omega) (by rw [bB, h1]; first | rw [if_pos (by omega)] | rw [if_neg (by omega)]) ls (lv_sub hl [3, 4, 5, 1, 0] rfl)
          · have c29 := mt (nI_leI (by omega) (by omega)).mpr c29
            refine lv_bipush (v := nI 69) hx hb dX4_balancesBefore_32 (by decide) ?_
            refine lv_goto (tgt := 38) hx hb dX4_balancesBefore_34 (by decide) ?_
            refine lv_istore (lv' := [(5, .int (nI 69)), (0, .ref g), (1, .int (nI a)), (2, .int (nI e2)), (3, .int (nI nb)), (4, .int (nI i))]) hx hb dX4_balancesBefore_38 hl (by decide) rfl (fun ls hl => ?_)
            refine lv_iload_n hx hb dX4_balancesBefore_40 rfl (lv_at hl 4 rfl) ?_
            refine lv_aload_n hx hb dX4_balancesBefore_41 rfl (lv_at hl 1 rfl) ?_
            refine lv_aload_n hx hb dX4_balancesBefore_42 rfl (lv_at hl 1 rfl) ?_
            refine g_get hC hP hg.1 rfl inX4 0 (by decide) q1_115 hg.2.1 dX4_balancesBefore_43 ?_
            refine g_get hC hP hg.2.2.2.2.2.2.2.2.1.1 rfl inX3 1 (by decide) q1_80 hg.2.2.2.2.2.2.2.2.1.2.2.1 dX4_balancesBefore_46 ?_
            refine lv_iload hx hb dX4_balancesBefore_49 (lv_at hl 5 rfl) ?_
            refine g_cp (g_rV (As := [.int (nI i)]) hC hP (c_X0_mixAt_in l hP (k := r + 1) (cnt := cr.1) (fill := fr) (sp := sr) (j := i) (ad := ar) hg.2.2.2.2.2.2.2.2.2.2.2.2.1 hgc.1 (by first | assumption | omega)) hg.2.2.2.2.2.2.2.2.2.2.2.2.1.1 rfl ⟨q2_153, q2_150, q2_151, q2_152, q1_3⟩ dd_X0_mixAt ⟨Nat.le_of_ble_eq_true rfl, Nat.le_of_ble_eq_true rfl, rfl, rfl⟩ hl.1 rfl (Nat.le_of_ble_eq_true rfl) dX4_balancesBefore_51 ⟨Nat.le_of_ble_eq_true rfl, Nat.le_of_ble_eq_true rfl⟩) ?_
            refine W.eq (g2 := F0 m 54 ls [.ref (ar i), .ref g, .int (nI nb)]) rfl ?_
            refine lv_iload hx hb dX4_balancesBefore_54 (lv_at hl 0 rfl) ?_
            refine g_cp (g_rV (As := [.ref (ar i), .int (nI 69)]) hC hP (c_X4_balancesOf l hP (g := g) (fr := fr) (sr := sr) (fd := fd) (sd := sd) (ar := ar) (ad := ad) (j := i) (e2 := 69) (by first | assumption | omega) (by first | assumption | omega) (by first | assumption | omega) (by first | assumption | omega)) hg.1 rfl ⟨q2_166, q2_163, q2_165, qs_21, q1_1⟩ dd_X4_balancesOf ⟨Nat.le_of_ble_eq_true rfl, Nat.le_of_ble_eq_true rfl, rfl, rfl⟩ hl.1 rfl (Nat.le_of_ble_eq_true rfl) dX4_balancesBefore_56 ⟨Nat.le_of_ble_eq_true rfl, Nat.le_of_ble_eq_true rfl⟩) ?_
            refine W.eq (g2 := F0 m 59 ls [.int (nI (cntL (fitP cr cd i) (min cd.1 69))), .int (nI nb)]) rfl ?_
            refine lv_iadd hx hb dX4_balancesBefore_59 ?_
            refine g_topi (y := nI (nb + (cntL (fitP cr cd i) (min cd.1 69)))) (nI_add _ _) ?_
            refine lv_istore_n (lv' := [(3, .int (nI (nb + (cntL (fitP cr cd i) (min cd.1 69))))), (5, .int (nI 69)), (0, .ref g), (1, .int (nI a)), (2, .int (nI e2)), (4, .int (nI i))]) hx hb dX4_balancesBefore_60 rfl hl (by decide) rfl (fun ls hl => ?_)
            refine lv_iinc (v := nI (i + 1)) (lv' := [(4, .int (nI (i + 1))), (3, .int (nI (nb + (cntL (fitP cr cd i) (min cd.1 69))))), (5, .int (nI 69)), (0, .ref g), (1, .int (nI a)), (2, .int (nI e2))]) hx hb dX4_balancesBefore_61 hl (k := 5) rfl (nI_inc _) (by decide) rfl (fun ls hl => ?_)
            refine lv_goto (tgt := 5) hx hb dX4_balancesBefore_64 (by decide) ?_
            exact ih5 (i + 1) (nb + (cntL (fitP cr cd i) (min cd.1 69))) (by omega) (by omega) (by rw [bB, h1]; first | rw [if_pos (by omega)] | rw [if_neg (by omega)]) ls (lv_sub hl [3, 4, 5, 1, 0] rfl)
  exact L5 72 0 0 (by omega) (by omega) rfl ls (lv_sub hl [2, 3, 4, 1, 0] rfl)
