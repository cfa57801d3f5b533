/-! ===== the reference: cornerOfTray, find ===== -/
theorem tw_b4 {w : Nat → Int32} {ch : Nat} (hw : wOK w) : ∀ i, i < 4 → 0 ≤ (twS w ch i).toInt ∧ (twS w ch i).toInt ≤ 384000 := fun i hi => by
  have := tw_b (ch := ch) hw i hi
  omega
theorem tw_vG {P w : Nat → Int32} {ch dh : Nat} (hw : wOK w) (hc : ch ≤ 4) (h : ¬ sWm w ch = 0) : vG (twV P w ch dh) := by
  have s := (sum4_I (tw_b4 (ch := ch) hw)).2
  refine ⟨tw_b4 hw, s, ?_⟩
  show 0 < (tsum (twS w ch) 4).toInt
  rw [tot_eq hw hc]
  exact (sw_b hw hc h).1
theorem rd_tw {P w : Nat → Int32} {ch dh : Nat} {S : Nat → Int64} (hw : wOK w) (hS : ∀ j, j < 4 → S j = twS w ch j) : rdV (twV P w ch dh) S (alS S) := by
  refine ⟨1, by decide, fun j hj => ?_, ?_⟩
  · rw [hS j hj, Int.one_mul]; rfl
  · have e : alS S = alS (twS w ch) := by
      unfold alS
      rw [hS 0 (by decide), hS 1 (by decide), hS 2 (by decide), hS 3 (by decide)]
    rw [e, (sum4_I (tw_b4 hw)).1, Int.one_mul]
    exact (sum4_I (tw_b4 hw)).2
theorem eqv {P : Nat → Int32} {ch : Nat} {v w : MixV} (hb : bdP P) (hc : ch ≤ 4) (hv : vG v) (hw : vG w) (h : ordV v w = 0) : usedB v.1 4 = usedB w.1 4 ∧ ansB P v.1 ch = ansB P w.1 ch := by
  have tv := (vG_t hv).1
  have tw := (vG_t hw).1
  rw [ordV_I hv hw] at h
  have e : ∀ k, k < 4 → (v.1 k).toInt * w.2.1.toInt = (w.1 k).toInt * v.2.1.toInt := by
    rcases cmpI_c (pvI v w) (pvI w v) with ⟨-, q⟩ | ⟨q, -⟩ | ⟨q, -⟩
    · exact q
    · rw [q] at h; exact absurd h (by decide)
    · rw [q] at h; exact absurd h (by decide)
  refine ⟨msk_congr 4 (fun k hk => ?_), ?_⟩
  · apply decide_eq_decide.mpr
    rw [lt0_I.1, lt0_I.1]
    have q := e k hk
    constructor
    · intro p
      have := Int.mul_pos p tw
      rw [q] at this
      exact Int.lt_of_mul_lt_mul_right (by rw [Int.zero_mul]; exact this) (Int.le_of_lt tv)
    · intro p
      have := Int.mul_pos p tv
      rw [← q] at this
      exact Int.lt_of_mul_lt_mul_right (by rw [Int.zero_mul]; exact this) (Int.le_of_lt tw)
  · exact ansB_sc hb hc tw tv hv.1 hw.1 (fun j hj => by rw [Int.mul_comm, e j hj, Int.mul_comm])
theorem nbr_s {c : CL} {v : MixV} {a : Nat} (h : nbr c v = some a) : a < c.1 ∧ ordV (c.2 a) v = 0 := by
  have := fstN_lt h
  exact ⟨this.1, of_decide_eq_true this.2⟩
theorem fit_tray {st : GS} {a e : Nat} (hm : 1 ≤ gsm st ∧ gsm st ≤ 4) (hn : 1 ≤ gsn st ∧ gsn st ≤ 4) (hb0 : bdP (gsP0 st)) (hb1 : bdP (gsP1 st)) (hw0 : wOK (gsw0 st)) (hw1 : wOK (gsw1 st)) (z0 : ¬ sWm (gsw0 st) (gsm st) = 0) (z1 : ¬ sWm (gsw1 st) (gsn st) = 0) (h0 : nbr (gsCr st) (gsT0 st) = some a) (h1 : nbr (gsCd st) (gsT1 st) = some e) : fitV (gsT0 st) (gsT1 st) = fitP (gsCr st) (gsCd st) a e := by
  obtain ⟨l0, l1⟩ := gsC_LG hm hn hb0 hb1
  obtain ⟨a1, a2⟩ := nbr_s h0
  obtain ⟨e1, e2⟩ := nbr_s h1
  obtain ⟨g1, g2, g3, -⟩ := l0.2 a a1
  obtain ⟨k1, k2, k3, -⟩ := l1.2 e e1
  have q0 := eqv (P := gsP1 st) (ch := gsn st) hb1 hn.2 g1 (tw_vG hw0 hm.2 z0) a2
  have q1 := eqv (P := gsP0 st) (ch := gsm st) hb0 hm.2 k1 (tw_vG hw1 hn.2 z1) e2
  unfold fitP fitV
  rw [g2, g3, k2, k3, q0.1, q0.2, q1.1, q1.2]
  rfl
theorem oI_some {o : Option Nat} {z : Nat} (hz : z < 2 ^ 31) (ho : ∀ k, o = some k → k < 2 ^ 31) (h : nI z = oI o) : o = some z := by
  cases o with
  | none =>
    have := nI_pos hz
    rw [h] at this
    exact absurd (by decide) this
  | some k => rw [(nI_eq hz (ho k rfl)).mp h]
theorem nbr_b {c : CL} {v : MixV} (h : c.1 ≤ 69) : ∀ k, nbr c v = some k → k < 2 ^ 31 := fun k hk => by
  have := (nbr_s hk).1
  omega
set_option maxHeartbeats 4000000 in
set_option maxRecDepth 100000 in
theorem c_X5_cornerOfTray_0 (l : Launch) {G : gG} {T : gTy} {I : gI} {J : gJ} {Q : gR} {O : gO} {H : Heap} (hP : gP G T I J Q O H) {h : Nat} {st : GS} {C : CL} (hm : isMo T O h) (hs0 : moS I h st) (hw0 : wOK (gsw0 st)) (hw1 : wOK (gsw1 st)) (htz : ¬ sWm (gsw0 st) (gsm st) = 0) (hcr : crR I J h 0 C) (hcg : cG C) (h69 : C.1 ≤ 69) : Met l yX5_cornerOfTray (gw yX5_cornerOfTray cX5_cornerOfTray 3 (some (.int))) ({ frames := 1, cells := 0, slots := 0, locals := 28 } : Room) (gPc G H [.ref h, .int (nI 0)]) (gQc (gF T H) (fun r H1 => r = some (.int (oI (nbr C (gsT0 st)))) ∧ ∃ J2 : gJ, gP G T I J2 Q O H1 ∧ ∀ q, q ≠ h + 5 → q ≠ h + 6 → q ≠ h + 15 → J2 q = J q)) 0 0 (gF T H) := by
  refine g_met [(0, .ref h), (1, .int (nI 0))] (by decide) rfl (by exact Nat.le_of_ble_eq_true rfl) ?_
  intro p e s m below meth c hC hs ls hl
  have hx := hC.1.1
  have hb := hC.1.2.1
  have hS : va_S (gF T H) s.heap H [] := hs ▸ va_S.rf
  have hTA : ∀ q, (T q).1 ≠ 0 → gF T H q := fun q h => Or.inl h
  have hA : ∀ q, s.heap.size ≤ q → gF T H q := fun q h => Or.inr (hs ▸ h)
  generalize hAe : gF T H = A at hS hTA hA ⊢
  have hms := hs0.1
  have hns := hs0.2.1
  refine lv_aload_n hx hb dX5_cornerOfTray_0 rfl (lv_at hl 0 rfl) ?_
  refine g_cc (g_rV (As := []) hC hP (c_X5_showTray l hP (h := h) (by first | assumption | omega) (by first | assumption | omega)) hm.1 rfl ⟨q3_116, q3_113, q3_115, qs_30, q1_6⟩ dd_X5_showTray ⟨Nat.le_of_ble_eq_true rfl, Nat.le_of_ble_eq_true rfl, rfl, rfl⟩ hl.1 rfl (Nat.le_of_ble_eq_true rfl) dX5_cornerOfTray_1 ⟨Nat.le_of_ble_eq_true rfl, Nat.le_of_ble_eq_true rfl⟩) hS (fun q h => h.elim (hTA q) (fun z => hA q (Nat.le_trans hS.1 z))) (fun r5 H1 locs2 hq6 hS hz3 hfr4 => ?_)
  obtain ⟨rfl, hP⟩ := hq6
  obtain ⟨J7, hJ7, hP⟩ : ∃ X : gJ, X = gu (gu J (h + 5) (trayX (J (h + 5)) (gsw0 st) (gsm st) 4)) (h + 6) (trayX (J (h + 6)) (gsw1 st) (gsn st) 4) ∧ gP G T I X Q O H1 := ⟨_, rfl, hP⟩
  refine W.eq (g2 := F0 m 4 ls []) rfl ?_
  refine lv_iconst (v := nI 0) hx hb dX5_cornerOfTray_4 (by decide) ?_
  refine lv_istore_n (lv' := [(2, .int (nI 0)), (0, .ref h), (1, .int (nI 0))]) hx hb dX5_cornerOfTray_5 rfl hl (by decide) rfl (fun ls hl => ?_)
  have L6 : ∀ (n6 : Nat) (z : Nat) (S : Nat → Int64) (J9 : gJ), 5 ≤ n6 + z → (z ≤ 4) → (J9 = gu J7 (h + 15) S) → (∀ j, j < z → S j = twS (gsw0 st) (gsm st) j) → ∀ (Hl : Heap) (lcl : List Loc), gP G T I J9 Q O Hl → va_S A s.heap Hl lcl → ∀ ls : Array Slot, lv_has ls 3 [(0, .ref h), (1, .int (nI 0)), (2, .int (nI z))] → W p l e ({ frames := 1, cells := 0, slots := 0, locals := 28 } : Room) s m [.ref h, .int (nI 0)].toArray below meth c Hl lcl 0 0 (MQ below (gQc A (fun r H1 => r = some (.int (oI (nbr C (gsT0 st)))) ∧ ∃ J2 : gJ, gP G T I J2 Q O H1 ∧ ∀ q, q ≠ h + 5 → q ≠ h + 6 → q ≠ h + 15 → J2 q = J q)) [.ref h, .int (nI 0)].toArray s 0 0 A) (F0 m 6 ls []) := by
    intro n6
    induction n6 with
    | zero => intro z S J9 hn6 hz h1 h2; exact absurd hn6 (by omega)
    | succ n6 ih6 =>
      intro z S J9 hn6 hz h1 h2 Hl lcl hP hS ls hl
      refine lv_iload_n hx hb dX5_cornerOfTray_6 rfl (lv_at hl 2 rfl) ?_
      refine lv_iconst (v := nI 4) hx hb dX5_cornerOfTray_7 (by decide) ?_
      refine lv_icmp_ge (tgt := 42) hx hb dX5_cornerOfTray_8 (by decide) (fun c8 => ?_) (fun c8 => ?_)
      · have c8 := (nI_leI (by omega) (by omega)).mp c8
        have fr : ∀ q, q ≠ h + 5 → q ≠ h + 6 → q ≠ h + 15 → J9 q = J q := fun q q1 q2 q3 => by rw [h1, gu_ne _ _ q3, hJ7, gu_ne _ _ q2, gu_ne _ _ q1]
        have hcr9 := crR_keep hcr rfl rfl rfl (fr (h + 8) (by omega) (by omega) (by omega)) (fr (h + 9) (by omega) (by omega) (by omega))
        have hvT : vG (gsT0 st) := tw_vG hw0 (by omega) htz
        have hrT : rdV (gsT0 st) (J9 (h + 15)) (alS (J9 (h + 15))) := rd_tw hw0 (fun j hj => by rw [h1, gu_eq]; exact h2 j (by omega))
        refine lv_iconst (v := nI 0) hx hb dX5_cornerOfTray_42 (by decide) ?_
        refine lv_istore_n (lv' := [(2, .int (nI 0)), (0, .ref h), (1, .int (nI 0))]) hx hb dX5_cornerOfTray_43 rfl hl (by decide) rfl (fun ls hl => ?_)
        have L44 : ∀ (n44 : Nat) (z2 : Nat), 70 ≤ n44 + z2 → (z2 ≤ C.1) → (∀ j, j < z2 → ¬ ordV (C.2 j) (gsT0 st) = 0) → ∀ (Hl : Heap) (lcl : List Loc), gP G T I J9 Q O Hl → va_S A s.heap Hl lcl → ∀ ls : Array Slot, lv_has ls 3 [(0, .ref h), (1, .int (nI 0)), (2, .int (nI z2))] → W p l e ({ frames := 1, cells := 0, slots := 0, locals := 28 } : Room) s m [.ref h, .int (nI 0)].toArray below meth c Hl lcl 0 0 (MQ below (gQc A (fun r H1 => r = some (.int (oI (nbr C (gsT0 st)))) ∧ ∃ J2 : gJ, gP G T I J2 Q O H1 ∧ ∀ q, q ≠ h + 5 → q ≠ h + 6 → q ≠ h + 15 → J2 q = J q)) [.ref h, .int (nI 0)].toArray s 0 0 A) (F0 m 44 ls []) := by
          intro n44
          induction n44 with
          | zero => intro z2 hn44 hz2 k1; exact absurd hn44 (by omega)
          | succ n44 ih44 =>
            intro z2 hn44 hz2 k1 Hl lcl hP hS ls hl
            refine lv_iload_n hx hb dX5_cornerOfTray_44 rfl (lv_at hl 2 rfl) ?_
            refine lv_aload_n hx hb dX5_cornerOfTray_45 rfl (lv_at hl 0 rfl) ?_
            refine g_get hC hP hm.1 rfl inX5 9 (by decide) q3_15 hm.2.2.2.2.2.2.2.1.1 dX5_cornerOfTray_46 ?_
            refine lv_iload_n hx hb dX5_cornerOfTray_49 rfl (lv_at hl 1 rfl) ?_
            refine g_iald hC hP hm.2.2.2.2.2.2.2.1.2 (vp_in_nI (by omega) (by decide)) dX5_cornerOfTray_50 ?_
            refine g_topi (y := nI C.1) hcr.1 ?_
            refine lv_icmp_ge (tgt := 75) hx hb dX5_cornerOfTray_51 (by decide) (fun c51 => ?_) (fun c51 => ?_)
            · have c51 := (nI_leI (by omega) (by omega)).mp c51
              refine lv_bipush (v := (-9)) hx hb dX5_cornerOfTray_75 (by decide) ?_
              refine g_retci hC hS ?_ dX5_cornerOfTray_77
              refine ⟨?_, J9, hP, fr⟩
              rw [show nbr C (gsT0 st) = none from fstN_none (fun k hk => decide_eq_false (k1 k (by omega)))]
              rfl
            · have c51 := mt (nI_leI (by omega) (by omega)).mpr c51
              refine lv_aload_n hx hb dX5_cornerOfTray_54 rfl (lv_at hl 0 rfl) ?_
              refine lv_bipush (v := nI 80) hx hb dX5_cornerOfTray_55 (by decide) ?_
              refine lv_iload_n hx hb dX5_cornerOfTray_57 rfl (lv_at hl 1 rfl) ?_
              refine lv_imul hx hb dX5_cornerOfTray_58 ?_
              refine g_topi (y := nI (80 * 0)) (nI_mul _ _) ?_
              refine lv_iload_n hx hb dX5_cornerOfTray_59 rfl (lv_at hl 2 rfl) ?_
              refine lv_iadd hx hb dX5_cornerOfTray_60 ?_
              refine g_topi (y := nI (80 * 0 + z2)) (nI_add _ _) ?_
              refine g_cp (g_rV (As := [.int (nI (80 * 0 + z2))]) hC hP (c_X5_ahead l hP (h := h) (ap := 80 * 0 + z2) (by first | assumption | omega) (by first | assumption | omega)) hm.1 rfl ⟨q3_209, q3_206, q3_208, qs_42, q1_6⟩ dd_X5_ahead ⟨Nat.le_of_ble_eq_true rfl, Nat.le_of_ble_eq_true rfl, rfl, rfl⟩ hl.1 rfl (Nat.le_of_ble_eq_true rfl) dX5_cornerOfTray_61 ⟨Nat.le_of_ble_eq_true rfl, Nat.le_of_ble_eq_true rfl⟩) ?_
              refine W.eq (g2 := F0 m 64 ls [.int (aheadF (J9 (h + 15)) (fun k => J9 (h + 8) (4 * (80 * 0 + z2) + k)) (J9 (h + 9) (80 * 0 + z2)))]) rfl ?_
              have hz9 : z2 < C.1 := by omega
              refine g_topi (y := -(ordV (gsT0 st) (C.2 z2))) (ah_ord hvT (hcg z2 hz9) hrT (hcr9.2 z2 hz9).1) ?_
              refine lv_if_ne (tgt := 69) hx hb dX5_cornerOfTray_64 (by decide) (fun c64 => ?_) (fun c64 => ?_)
              · refine lv_iinc (v := nI (z2 + 1)) (lv' := [(2, .int (nI (z2 + 1))), (0, .ref h), (1, .int (nI 0))]) hx hb dX5_cornerOfTray_69 hl (k := 2) rfl (nI_inc _) (by decide) rfl (fun ls hl => ?_)
                refine lv_goto (tgt := 44) hx hb dX5_cornerOfTray_72 (by decide) ?_
                exact ih44 (z2 + 1) (by omega) (by omega) (fun j hj => by rcases Nat.lt_succ_iff_lt_or_eq.mp hj with q | rfl; (exact k1 j q); (exact fun e => c64 (by rw [(ordV_sy hvT (hcg j hz9)).mpr e]; decide))) _ _ hP hS ls (lv_sub hl [1, 2, 0] rfl)
              · refine lv_iload_n hx hb dX5_cornerOfTray_67 rfl (lv_at hl 2 rfl) ?_
                refine g_retci hC hS ?_ dX5_cornerOfTray_68
                refine ⟨?_, J9, hP, fr⟩
                rw [show nbr C (gsT0 st) = some z2 from fstN_some hz9 (decide_eq_true ((ordV_sy hvT (hcg z2 hz9)).mp (ord_eq0 c64))) (fun k hk => decide_eq_false (k1 k hk))]
                rfl
        exact L44 70 0 (by omega) (by omega) (fun j hj => absurd hj (Nat.not_lt_zero j)) _ _ hP hS ls (lv_sub hl [1, 2, 0] rfl)
      · have c8 := mt (nI_leI (by omega) (by omega)).mpr c8
        refine lv_aload_n hx hb dX5_cornerOfTray_11 rfl (lv_at hl 0 rfl) ?_
        refine g_get hC hP hm.1 rfl inX5 17 (by decide) q3_23 hm.2.2.2.2.2.2.2.2.2.2.2.2.2.2.2.1.1 dX5_cornerOfTray_12 ?_
        refine lv_iload_n hx hb dX5_cornerOfTray_15 rfl (lv_at hl 2 rfl) ?_
        refine lv_iload_n hx hb dX5_cornerOfTray_16 rfl (lv_at hl 1 rfl) ?_
        refine lv_if_ne (tgt := 29) hx hb dX5_cornerOfTray_17 (by decide) (fun q => absurd (by decide) q) (fun _ => ?_)
        refine lv_aload_n hx hb dX5_cornerOfTray_20 rfl (lv_at hl 0 rfl) ?_
        refine g_get hC hP hm.1 rfl inX5 4 (by decide) q3_10 hm.2.2.2.2.2.1.1 dX5_cornerOfTray_21 ?_
        refine lv_iload_n hx hb dX5_cornerOfTray_24 rfl (lv_at hl 2 rfl) ?_
        refine g_lald hC hP hm.2.2.2.2.2.1.2 (vp_in_nI (by omega) (by decide)) dX5_cornerOfTray_25 ?_
        refine g_topl (y := twS (gsw0 st) (gsm st) z) ((congrArg (J9 (h + 5)) (nI_clamp (by omega))).trans (by rw [h1, gu_ne _ _ (by omega), hJ7, gu_ne _ _ (by omega), gu_eq]; exact tr_tw z (by omega))) ?_
        refine lv_goto (tgt := 35) hx hb dX5_cornerOfTray_26 (by decide) ?_
        refine g_last hC hP hS hTA hm.2.2.2.2.2.2.2.2.2.2.2.2.2.2.2.1.2 (vp_in_nI (by omega) (by decide)) dX5_cornerOfTray_35 (fun H8 locs9 hP hS hz11 => ?_)
        rw [show (nI z).toNatClampNeg = z from nI_clamp (by omega)] at hP
        obtain ⟨J10, hJ10, hP⟩ : ∃ X : gJ, X = au J9 (h + 15) z (twS (gsw0 st) (gsm st) z) ∧ gP G T I X Q O H8 := ⟨_, rfl, hP⟩
        refine lv_iinc (v := nI (z + 1)) (lv' := [(2, .int (nI (z + 1))), (0, .ref h), (1, .int (nI 0))]) hx hb dX5_cornerOfTray_36 hl (k := 2) rfl (nI_inc _) (by decide) rfl (fun ls hl => ?_)
        refine lv_goto (tgt := 6) hx hb dX5_cornerOfTray_39 (by decide) ?_
        exact ih6 (z + 1) (gu S z (twS (gsw0 st) (gsm st) z)) J10 (by omega) (by omega) (by rw [hJ10, h1, au_gu]) (fun j hj => by by_cases e : j = z; (subst e; exact gu_eq _ _ _); (rw [gu_ne _ _ e]; exact h2 j (by omega))) _ _ hP hS ls (lv_sub hl [1, 2, 0] rfl)
  exact L6 5 0 (J7 (h + 15)) J7 (by omega) (by omega) (gu_self _ _).symm (fun j hj => absurd hj (Nat.not_lt_zero j)) _ _ hP hS ls (lv_sub hl [1, 2, 0] rfl)
set_option maxHeartbeats 4000000 in
set_option maxRecDepth 100000 in
theorem c_X5_cornerOfTray_1 (l : Launch) {G : gG} {T : gTy} {I : gI} {J : gJ} {Q : gR} {O : gO} {H : Heap} (hP : gP G T I J Q O H) {h : Nat} {st : GS} {C : CL} (hm : isMo T O h) (hs0 : moS I h st) (hw0 : wOK (gsw0 st)) (hw1 : wOK (gsw1 st)) (htz : ¬ sWm (gsw1 st) (gsn st) = 0) (hcr : crR I J h 1 C) (hcg : cG C) (h69 : C.1 ≤ 69) : Met l yX5_cornerOfTray (gw yX5_cornerOfTray cX5_cornerOfTray 3 (some (.int))) ({ frames := 1, cells := 0, slots := 0, locals := 28 } : Room) (gPc G H [.ref h, .int (nI 1)]) (gQc (gF T H) (fun r H1 => r = some (.int (oI (nbr C (gsT1 st)))) ∧ ∃ J2 : gJ, gP G T I J2 Q O H1 ∧ ∀ q, q ≠ h + 5 → q ≠ h + 6 → q ≠ h + 15 → J2 q = J q)) 0 0 (gF T H) := by
  refine g_met [(0, .ref h), (1, .int (nI 1))] (by decide) rfl (by exact Nat.le_of_ble_eq_true rfl) ?_
  intro p e s m below meth c hC hs ls hl
  have hx := hC.1.1
  have hb := hC.1.2.1
  have hS : va_S (gF T H) s.heap H [] := hs ▸ va_S.rf
  have hTA : ∀ q, (T q).1 ≠ 0 → gF T H q := fun q h => Or.inl h
  have hA : ∀ q, s.heap.size ≤ q → gF T H q := fun q h => Or.inr (hs ▸ h)
  generalize hAe : gF T H = A at hS hTA hA ⊢
  have hms := hs0.1
  have hns := hs0.2.1
  refine lv_aload_n hx hb dX5_cornerOfTray_0 rfl (lv_at hl 0 rfl) ?_
  refine g_cc (g_rV (As := []) hC hP (c_X5_showTray l hP (h := h) (by first | assumption | omega) (by first | assumption | omega)) hm.1 rfl ⟨q3_116, q3_113, q3_115, qs_30, q1_6⟩ dd_X5_showTray ⟨Nat.le_of_ble_eq_true rfl, Nat.le_of_ble_eq_true rfl, rfl, rfl⟩ hl.1 rfl (Nat.le_of_ble_eq_true rfl) dX5_cornerOfTray_1 ⟨Nat.le_of_ble_eq_true rfl, Nat.le_of_ble_eq_true rfl⟩) hS (fun q h => h.elim (hTA q) (fun z => hA q (Nat.le_trans hS.1 z))) (fun r5 H1 locs2 hq6 hS hz3 hfr4 => ?_)
  obtain ⟨rfl, hP⟩ := hq6
  obtain ⟨J7, hJ7, hP⟩ : ∃ X : gJ, X = gu (gu J (h + 5) (trayX (J (h + 5)) (gsw0 st) (gsm st) 4)) (h + 6) (trayX (J (h + 6)) (gsw1 st) (gsn st) 4) ∧ gP G T I X Q O H1 := ⟨_, rfl, hP⟩
  refine W.eq (g2 := F0 m 4 ls []) rfl ?_
  refine lv_iconst (v := nI 0) hx hb dX5_cornerOfTray_4 (by decide) ?_
  refine lv_istore_n (lv' := [(2, .int (nI 0)), (0, .ref h), (1, .int (nI 1))]) hx hb dX5_cornerOfTray_5 rfl hl (by decide) rfl (fun ls hl => ?_)
  have L6 : ∀ (n6 : Nat) (z : Nat) (S : Nat → Int64) (J9 : gJ), 5 ≤ n6 + z → (z ≤ 4) → (J9 = gu J7 (h + 15) S) → (∀ j, j < z → S j = twS (gsw1 st) (gsn st) j) → ∀ (Hl : Heap) (lcl : List Loc), gP G T I J9 Q O Hl → va_S A s.heap Hl lcl → ∀ ls : Array Slot, lv_has ls 3 [(0, .ref h), (1, .int (nI 1)), (2, .int (nI z))] → W p l e ({ frames := 1, cells := 0, slots := 0, locals := 28 } : Room) s m [.ref h, .int (nI 1)].toArray below meth c Hl lcl 0 0 (MQ below (gQc A (fun r H1 => r = some (.int (oI (nbr C (gsT1 st)))) ∧ ∃ J2 : gJ, gP G T I J2 Q O H1 ∧ ∀ q, q ≠ h + 5 → q ≠ h + 6 → q ≠ h + 15 → J2 q = J q)) [.ref h, .int (nI 1)].toArray s 0 0 A) (F0 m 6 ls []) := by
    intro n6
    induction n6 with
    | zero => intro z S J9 hn6 hz h1 h2; exact absurd hn6 (by omega)
    | succ n6 ih6 =>
      intro z S J9 hn6 hz h1 h2 Hl lcl hP hS ls hl
      refine lv_iload_n hx hb dX5_cornerOfTray_6 rfl (lv_at hl 2 rfl) ?_
      refine lv_iconst (v := nI 4) hx hb dX5_cornerOfTray_7 (by decide) ?_
      refine lv_icmp_ge (tgt := 42) hx hb dX5_cornerOfTray_8 (by decide) (fun c8 => ?_) (fun c8 => ?_)
      · have c8 := (nI_leI (by omega) (by omega)).mp c8
        have fr : ∀ q, q ≠ h + 5 → q ≠ h + 6 → q ≠ h + 15 → J9 q = J q := fun q q1 q2 q3 => by rw [h1, gu_ne _ _ q3, hJ7, gu_ne _ _ q2, gu_ne _ _ q1]
        have hcr9 := crR_keep hcr rfl rfl rfl (fr (h + 8) (by omega) (by omega) (by omega)) (fr (h + 9) (by omega) (by omega) (by omega))
        have hvT : vG (gsT1 st) := tw_vG hw1 (by omega) htz
        have hrT : rdV (gsT1 st) (J9 (h + 15)) (alS (J9 (h + 15))) := rd_tw hw1 (fun j hj => by rw [h1, gu_eq]; exact h2 j (by omega))
        refine lv_iconst (v := nI 0) hx hb dX5_cornerOfTray_42 (by decide) ?_
        refine lv_istore_n (lv' := [(2, .int (nI 0)), (0, .ref h), (1, .int (nI 1))]) hx hb dX5_cornerOfTray_43 rfl hl (by decide) rfl (fun ls hl => ?_)
        have L44 : ∀ (n44 : Nat) (z2 : Nat), 70 ≤ n44 + z2 → (z2 ≤ C.1) → (∀ j, j < z2 → ¬ ordV (C.2 j) (gsT1 st) = 0) → ∀ (Hl : Heap) (lcl : List Loc), gP G T I J9 Q O Hl → va_S A s.heap Hl lcl → ∀ ls : Array Slot, lv_has ls 3 [(0, .ref h), (1, .int (nI 1)), (2, .int (nI z2))] → W p l e ({ frames := 1, cells := 0, slots := 0, locals := 28 } : Room) s m [.ref h, .int (nI 1)].toArray below meth c Hl lcl 0 0 (MQ below (gQc A (fun r H1 => r = some (.int (oI (nbr C (gsT1 st)))) ∧ ∃ J2 : gJ, gP G T I J2 Q O H1 ∧ ∀ q, q ≠ h + 5 → q ≠ h + 6 → q ≠ h + 15 → J2 q = J q)) [.ref h, .int (nI 1)].toArray s 0 0 A) (F0 m 44 ls []) := by
          intro n44
          induction n44 with
          | zero => intro z2 hn44 hz2 k1; exact absurd hn44 (by omega)
          | succ n44 ih44 =>
            intro z2 hn44 hz2 k1 Hl lcl hP hS ls hl
            refine lv_iload_n hx hb dX5_cornerOfTray_44 rfl (lv_at hl 2 rfl) ?_
            refine lv_aload_n hx hb dX5_cornerOfTray_45 rfl (lv_at hl 0 rfl) ?_
            refine g_get hC hP hm.1 rfl inX5 9 (by decide) q3_15 hm.2.2.2.2.2.2.2.1.1 dX5_cornerOfTray_46 ?_
            refine lv_iload_n hx hb dX5_cornerOfTray_49 rfl (lv_at hl 1 rfl) ?_
            refine g_iald hC hP hm.2.2.2.2.2.2.2.1.2 (vp_in_nI (by omega) (by decide)) dX5_cornerOfTray_50 ?_
            refine g_topi (y := nI C.1) hcr.1 ?_
            refine lv_icmp_ge (tgt := 75) hx hb dX5_cornerOfTray_51 (by decide) (fun c51 => ?_) (fun c51 => ?_)
            · have c51 := (nI_leI (by omega) (by omega)).mp c51
              refine lv_bipush (v := (-9)) hx hb dX5_cornerOfTray_75 (by decide) ?_
              refine g_retci hC hS ?_ dX5_cornerOfTray_77
              refine ⟨?_, J9, hP, fr⟩
              rw [show nbr C (gsT1 st) = none from fstN_none (fun k hk => decide_eq_false (k1 k (by omega)))]
              rfl
            · have c51 := mt (nI_leI (by omega) (by omega)).mpr c51
              refine lv_aload_n hx hb dX5_cornerOfTray_54 rfl (lv_at hl 0 rfl) ?_
              refine lv_bipush (v := nI 80) hx hb dX5_cornerOfTray_55 (by decide) ?_
              refine lv_iload_n hx hb dX5_cornerOfTray_57 rfl (lv_at hl 1 rfl) ?_
              refine lv_imul hx hb dX5_cornerOfTray_58 ?_
              refine g_topi (y := nI (80 * 1)) (nI_mul _ _) ?_
              refine lv_iload_n hx hb dX5_cornerOfTray_59 rfl (lv_at hl 2 rfl) ?_
              refine lv_iadd hx hb dX5_cornerOfTray_60 ?_
              refine g_topi (y := nI (80 * 1 + z2)) (nI_add _ _) ?_
              refine g_cp (g_rV (As := [.int (nI (80 * 1 + z2))]) hC hP (c_X5_ahead l hP (h := h) (ap := 80 * 1 + z2) (by first | assumption | omega) (by first | assumption | omega)) hm.1 rfl ⟨q3_209, q3_206, q3_208, qs_42, q1_6⟩ dd_X5_ahead ⟨Nat.le_of_ble_eq_true rfl, Nat.le_of_ble_eq_true rfl, rfl, rfl⟩ hl.1 rfl (Nat.le_of_ble_eq_true rfl) dX5_cornerOfTray_61 ⟨Nat.le_of_ble_eq_true rfl, Nat.le_of_ble_eq_true rfl⟩) ?_
              refine W.eq (g2 := F0 m 64 ls [.int (aheadF (J9 (h + 15)) (fun k => J9 (h + 8) (4 * (80 * 1 + z2) + k)) (J9 (h + 9) (80 * 1 + z2)))]) rfl ?_
              have hz9 : z2 < C.1 := by omega
              refine g_topi (y := -(ordV (gsT1 st) (C.2 z2))) (ah_ord hvT (hcg z2 hz9) hrT (hcr9.2 z2 hz9).1) ?_
              refine lv_if_ne (tgt := 69) hx hb dX5_cornerOfTray_64 (by decide) (fun c64 => ?_) (fun c64 => ?_)
              · refine lv_iinc (v := nI (z2 + 1)) (lv' := [(2, .int (nI (z2 + 1))), (0, .ref h), (1, .int (nI 1))]) hx hb dX5_cornerOfTray_69 hl (k := 2) rfl (nI_inc _) (by decide) rfl (fun ls hl => ?_)
                refine lv_goto (tgt := 44) hx hb dX5_cornerOfTray_72 (by decide) ?_
                exact ih44 (z2 + 1) (by omega) (by omega) (fun j hj => by rcases Nat.lt_succ_iff_lt_or_eq.mp hj with q | rfl; (exact k1 j q); (exact fun e => c64 (by rw [(ordV_sy hvT (hcg j hz9)).mpr e]; decide))) _ _ hP hS ls (lv_sub hl [1, 2, 0] rfl)
              · refine lv_iload_n hx hb dX5_cornerOfTray_67 rfl (lv_at hl 2 rfl) ?_
                refine g_retci hC hS ?_ dX5_cornerOfTray_68
                refine ⟨?_, J9, hP, fr⟩
                rw [show nbr C (gsT1 st) = some z2 from fstN_some hz9 (decide_eq_true ((ordV_sy hvT (hcg z2 hz9)).mp (ord_eq0 c64))) (fun k hk => decide_eq_false (k1 k hk))]
                rfl
        exact L44 70 0 (by omega) (by omega) (fun j hj => absurd hj (Nat.not_lt_zero j)) _ _ hP hS ls (lv_sub hl [1, 2, 0] rfl)
      · have c8 := mt (nI_leI (by omega) (by omega)).mpr c8
        refine lv_aload_n hx hb dX5_cornerOfTray_11 rfl (lv_at hl 0 rfl) ?_
        refine g_get hC hP hm.1 rfl inX5 17 (by decide) q3_23 hm.2.2.2.2.2.2.2.2.2.2.2.2.2.2.2.1.1 dX5_cornerOfTray_12 ?_
        refine lv_iload_n hx hb dX5_cornerOfTray_15 rfl (lv_at hl 2 rfl) ?_
        refine lv_iload_n hx hb dX5_cornerOfTray_16 rfl (lv_at hl 1 rfl) ?_
        refine lv_if_ne (tgt := 29) hx hb dX5_cornerOfTray_17 (by decide) (fun _ => ?_) (fun q => absurd q (by decide))
        refine lv_aload_n hx hb dX5_cornerOfTray_29 rfl (lv_at hl 0 rfl) ?_
        refine g_get hC hP hm.1 rfl inX5 5 (by decide) q3_11 hm.2.2.2.2.2.2.1.1 dX5_cornerOfTray_30 ?_
        refine lv_iload_n hx hb dX5_cornerOfTray_33 rfl (lv_at hl 2 rfl) ?_
        refine g_lald hC hP hm.2.2.2.2.2.2.1.2 (vp_in_nI (by omega) (by decide)) dX5_cornerOfTray_34 ?_
        refine g_topl (y := twS (gsw1 st) (gsn st) z) ((congrArg (J9 (h + 6)) (nI_clamp (by omega))).trans (by rw [h1, gu_ne _ _ (by omega), hJ7, gu_eq]; exact tr_tw z (by omega))) ?_
        refine g_last hC hP hS hTA hm.2.2.2.2.2.2.2.2.2.2.2.2.2.2.2.1.2 (vp_in_nI (by omega) (by decide)) dX5_cornerOfTray_35 (fun H8 locs9 hP hS hz11 => ?_)
        rw [show (nI z).toNatClampNeg = z from nI_clamp (by omega)] at hP
        obtain ⟨J10, hJ10, hP⟩ : ∃ X : gJ, X = au J9 (h + 15) z (twS (gsw1 st) (gsn st) z) ∧ gP G T I X Q O H8 := ⟨_, rfl, hP⟩
        refine lv_iinc (v := nI (z + 1)) (lv' := [(2, .int (nI (z + 1))), (0, .ref h), (1, .int (nI 1))]) hx hb dX5_cornerOfTray_36 hl (k := 2) rfl (nI_inc _) (by decide) rfl (fun ls hl => ?_)
        refine lv_goto (tgt := 6) hx hb dX5_cornerOfTray_39 (by decide) ?_
        exact ih6 (z + 1) (gu S z (twS (gsw1 st) (gsn st) z)) J10 (by omega) (by omega) (by rw [hJ10, h1, au_gu]) (fun j hj => by by_cases e : j = z; (subst e; exact gu_eq _ _ _); (rw [gu_ne _ _ e]; exact h2 j (by omega))) _ _ hP hS ls (lv_sub hl [1, 2, 0] rfl)
  exact L6 5 0 (J7 (h + 15)) J7 (by omega) (by omega) (gu_self _ _).symm (fun j hj => absurd hj (Nat.not_lt_zero j)) _ _ hP hS ls (lv_sub hl [1, 2, 0] rfl)
set_option maxHeartbeats 4000000 in
set_option maxRecDepth 100000 in
theorem c_X5_find (l : Launch) {G : gG} {T : gTy} {I : gI} {J : gJ} {Q : gR} {O : gO} {H : Heap} (hP : gP G T I J Q O H) {h : Nat} {st : GS}  (hm : isMo T O h) (hs0 : moS I h st) (hbd0 : bdP (gsP0 st)) (hbd1 : bdP (gsP1 st)) (hw0 : wOK (gsw0 st)) (hw1 : wOK (gsw1 st)) : Met l yX5_find (gw yX5_find cX5_find 6 (some (.int))) ({ frames := 4, cells := 0, slots := 0, locals := 103 } : Room) (gPc G H [.ref h]) (gQc (gF T H) (fun x H1 => rFind st (fun x1 s1 => x = some (.int x1) ∧ moR G T h s1 H1) )) 0 0 (gF T H) := by
  refine g_met [(0, .ref h)] (by decide) rfl (by exact Nat.le_of_ble_eq_true rfl) ?_
  intro p e s m below meth c hC hs ls hl
  have hx := hC.1.1
  have hb := hC.1.2.1
  have hS : va_S (gF T H) s.heap H [] := hs ▸ va_S.rf
  have hTA : ∀ q, (T q).1 ≠ 0 → gF T H q := fun q h => Or.inl h
  have hA : ∀ q, s.heap.size ≤ q → gF T H q := fun q h => Or.inr (hs ▸ h)
  generalize hAe : gF T H = A at hS hTA hA ⊢
  have hms := hs0.1
  have hns := hs0.2.1
  have hcb := gsC_b hms hns
  have hlg := gsC_LG hms hns hbd0 hbd1
  refine lv_aload_n hx hb dX5_find_0 rfl (lv_at hl 0 rfl) ?_
  refine lv_iconst (v := nI 0) hx hb dX5_find_1 (by decide) ?_
  refine g_cp (g_rV (As := [.int (nI 0)]) hC hP (c_X5_sumOf_0 l hP (h := h) (by first | assumption | omega) (by first | assumption | omega)) hm.1 rfl ⟨q3_112, q3_109, q3_111, qs_29, q1_6⟩ dd_X5_sumOf ⟨Nat.le_of_ble_eq_true rfl, Nat.le_of_ble_eq_true rfl, rfl, rfl⟩ hl.1 rfl (Nat.le_of_ble_eq_true rfl) dX5_find_2 ⟨Nat.le_of_ble_eq_true rfl, Nat.le_of_ble_eq_true rfl⟩) ?_
  refine W.eq (g2 := F0 m 5 ls [.int (sWm (gsw0 st) (gsm st))]) rfl ?_
  refine lv_if_eq (tgt := 16) hx hb dX5_find_5 (by decide) (fun c5 => ?_) (fun c5 => ?_)
  · refine lv_aload_n hx hb dX5_find_16 rfl (lv_at hl 0 rfl) ?_
    refine lv_bipush (v := (-5)) hx hb dX5_find_17 (by decide) ?_
    refine g_cc (g_rV (As := [.int (-5 : Int32)]) hC hP (c_X5_refuse l hP (h := h) (q := (-5 : Int32)) (j := 5) (by first | assumption | omega) (by decide) (by omega)) hm.1 rfl ⟨q3_71, q3_68, q3_70, qs_25, q1_6⟩ dd_X5_refuse ⟨Nat.le_of_ble_eq_true rfl, Nat.le_of_ble_eq_true rfl, rfl, rfl⟩ hl.1 rfl (Nat.le_of_ble_eq_true rfl) dX5_find_19 ⟨Nat.le_of_ble_eq_true rfl, Nat.le_of_ble_eq_true rfl⟩) hS (fun q h => h.elim (hTA q) (fun z => hA q (Nat.le_trans hS.1 z))) (fun r5 H1 locs2 hq6 hS hz3 hfr4 => ?_)
    obtain ⟨rfl, hP⟩ := hq6
    obtain ⟨I7, hI7, hP⟩ : ∃ I7 : gI, I7 = au I (h + 4) 5 (I (h + 4) 5 + 1) ∧ gP G T I7 J Q O H1 := ⟨_, rfl, hP⟩
    refine W.eq (g2 := F0 m 22 ls [.int (-5 : Int32)]) rfl ?_
    refine g_retci hC hS ?_ dX5_find_22
    exact Or.inl ⟨(by first | exact Or.inl ((tot_0 hw0 (by omega)).mpr c5) | exact Or.inr ((tot_0 hw1 (by omega)).mpr c13)), rfl, mo_ref hm hs0 (j := 5) (by decide) hI7 hP⟩
  · refine lv_aload_n hx hb dX5_find_8 rfl (lv_at hl 0 rfl) ?_
    refine lv_iconst (v := nI 1) hx hb dX5_find_9 (by decide) ?_
    refine g_cp (g_rV (As := [.int (nI 1)]) hC hP (c_X5_sumOf_1 l hP (h := h) (by first | assumption | omega) (by first | assumption | omega)) hm.1 rfl ⟨q3_112, q3_109, q3_111, qs_29, q1_6⟩ dd_X5_sumOf ⟨Nat.le_of_ble_eq_true rfl, Nat.le_of_ble_eq_true rfl, rfl, rfl⟩ hl.1 rfl (Nat.le_of_ble_eq_true rfl) dX5_find_10 ⟨Nat.le_of_ble_eq_true rfl, Nat.le_of_ble_eq_true rfl⟩) ?_
    refine W.eq (g2 := F0 m 13 ls [.int (sWm (gsw1 st) (gsn st))]) rfl ?_
    refine lv_if_ne (tgt := 23) hx hb dX5_find_13 (by decide) (fun c13 => ?_) (fun c13 => ?_)
    · refine lv_aload_n hx hb dX5_find_23 rfl (lv_at hl 0 rfl) ?_
      refine lv_iconst (v := nI 0) hx hb dX5_find_24 (by decide) ?_
      refine g_cc (g_rV (As := [.int (nI 0)]) hC hP (c_X5_findCorners_0 l hP (h := h) (by first | assumption | omega) (by first | assumption | omega) (by first | assumption | omega) (by first | assumption | omega)) hm.1 rfl ⟨q3_187, q3_184, q3_186, qs_38, q1_6⟩ dd_X5_findCorners ⟨Nat.le_of_ble_eq_true rfl, Nat.le_of_ble_eq_true rfl, rfl, rfl⟩ hl.1 rfl (Nat.le_of_ble_eq_true rfl) dX5_find_25 ⟨Nat.le_of_ble_eq_true rfl, Nat.le_of_ble_eq_true rfl⟩) hS (fun q h => h.elim (hTA q) (fun z => hA q (Nat.le_trans hS.1 z))) (fun r12 H8 locs9 hq13 hS hz10 hfr11 => ?_)
      obtain ⟨rfl, I14, J15, hP, hcr0, hf0⟩ := hq13
      have hsn0 : moS I14 h st := moS_fc hs0 hf0
      refine W.eq (g2 := F0 m 28 ls []) rfl ?_
      refine lv_aload_n hx hb dX5_find_28 rfl (lv_at hl 0 rfl) ?_
      refine lv_iconst (v := nI 1) hx hb dX5_find_29 (by decide) ?_
      refine g_cc (g_rV (As := [.int (nI 1)]) hC hP (c_X5_findCorners_1 l hP (h := h) (by first | assumption | omega) (by first | assumption | omega) (by first | assumption | omega) (by first | assumption | omega)) hm.1 rfl ⟨q3_187, q3_184, q3_186, qs_38, q1_6⟩ dd_X5_findCorners ⟨Nat.le_of_ble_eq_true rfl, Nat.le_of_ble_eq_true rfl, rfl, rfl⟩ hl.1 rfl (Nat.le_of_ble_eq_true rfl) dX5_find_30 ⟨Nat.le_of_ble_eq_true rfl, Nat.le_of_ble_eq_true rfl⟩) hS (fun q h => h.elim (hTA q) (fun z => hA q (Nat.le_trans hS.1 z))) (fun r20 H16 locs17 hq21 hS hz18 hfr19 => ?_)
      obtain ⟨rfl, I22, J23, hP, hcr1, hf1⟩ := hq21
      have hsn1 : moS I22 h st := moS_fc hsn0 hf1
      have hcr0 := crR_oth hcr0 hcb.1.1 hf1
      refine W.eq (g2 := F0 m 33 ls []) rfl ?_
      refine lv_aload_n hx hb dX5_find_33 rfl (lv_at hl 0 rfl) ?_
      refine lv_iconst (v := nI 0) hx hb dX5_find_34 (by decide) ?_
      refine g_cc (g_rV (As := [.int (nI 0)]) hC hP (c_X5_cornerOfTray_0 l hP (h := h) (C := gsCr st) (by first | assumption | omega) hsn1 (by first | assumption | omega) (by first | assumption | omega) c5 hcr0 hlg.1.cG hcb.1.1) hm.1 rfl ⟨q4_2, q3_239, q4_1, qs_46, q1_6⟩ dd_X5_cornerOfTray ⟨Nat.le_of_ble_eq_true rfl, Nat.le_of_ble_eq_true rfl, rfl, rfl⟩ hl.1 rfl (Nat.le_of_ble_eq_true rfl) dX5_find_35 ⟨Nat.le_of_ble_eq_true rfl, Nat.le_of_ble_eq_true rfl⟩) hS (fun q h => h.elim (hTA q) (fun z => hA q (Nat.le_trans hS.1 z))) (fun r28 H24 locs25 hq29 hS hz26 hfr27 => ?_)
      obtain ⟨rfl, J30, hP, hj9⟩ := hq29
      have hcr0 := crR_keep hcr0 rfl rfl rfl (hj9 (h + 8) (by omega) (by omega) (by omega)) (hj9 (h + 9) (by omega) (by omega) (by omega))
      have hcr1 := crR_keep hcr1 rfl rfl rfl (hj9 (h + 8) (by omega) (by omega) (by omega)) (hj9 (h + 9) (by omega) (by omega) (by omega))
      refine W.eq (g2 := F0 m 38 ls [.int (oI (nbr (gsCr st) (gsT0 st)))]) rfl ?_
      refine lv_istore_n (lv' := [(1, .int (oI (nbr (gsCr st) (gsT0 st)))), (0, .ref h)]) hx hb dX5_find_38 rfl hl (by decide) rfl (fun ls hl => ?_)
      refine lv_aload_n hx hb dX5_find_39 rfl (lv_at hl 1 rfl) ?_
      refine lv_iconst (v := nI 1) hx hb dX5_find_40 (by decide) ?_
      refine g_cc (g_rV (As := [.int (nI 1)]) hC hP (c_X5_cornerOfTray_1 l hP (h := h) (C := gsCd st) (by first | assumption | omega) hsn1 (by first | assumption | omega) (by first | assumption | omega) c13 hcr1 hlg.2.cG hcb.1.2) hm.1 rfl ⟨q4_2, q3_239, q4_1, qs_46, q1_6⟩ dd_X5_cornerOfTray ⟨Nat.le_of_ble_eq_true rfl, Nat.le_of_ble_eq_true rfl, rfl, rfl⟩ hl.1 rfl (Nat.le_of_ble_eq_true rfl) dX5_find_41 ⟨Nat.le_of_ble_eq_true rfl, Nat.le_of_ble_eq_true rfl⟩) hS (fun q h => h.elim (hTA q) (fun z => hA q (Nat.le_trans hS.1 z))) (fun r35 H31 locs32 hq36 hS hz33 hfr34 => ?_)
      obtain ⟨rfl, J37, hP, hj9⟩ := hq36
      have hcr0 := crR_keep hcr0 rfl rfl rfl (hj9 (h + 8) (by omega) (by omega) (by omega)) (hj9 (h + 9) (by omega) (by omega) (by omega))
      have hcr1 := crR_keep hcr1 rfl rfl rfl (hj9 (h + 8) (by omega) (by omega) (by omega)) (hj9 (h + 9) (by omega) (by omega) (by omega))
      refine W.eq (g2 := F0 m 44 ls [.int (oI (nbr (gsCd st) (gsT1 st)))]) rfl ?_
      refine lv_istore_n (lv' := [(2, .int (oI (nbr (gsCd st) (gsT1 st)))), (1, .int (oI (nbr (gsCr st) (gsT0 st)))), (0, .ref h)]) hx hb dX5_find_44 rfl hl (by decide) rfl (fun ls hl => ?_)
      refine lv_iconst (v := nI 0) hx hb dX5_find_45 (by decide) ?_
      refine lv_istore_n (lv' := [(3, .int (nI 0)), (2, .int (oI (nbr (gsCd st) (gsT1 st)))), (1, .int (oI (nbr (gsCr st) (gsT0 st)))), (0, .ref h)]) hx hb dX5_find_46 rfl hl (by decide) rfl (fun ls hl => ?_)
      have h690 := hcb.1.1
      have h691 := hcb.1.2
      refine lv_iconst (v := nI 0) hx hb dX5_find_47 (by decide) ?_
      refine lv_istore (lv' := [(4, .int (nI 0)), (3, .int (nI 0)), (2, .int (oI (nbr (gsCd st) (gsT1 st)))), (1, .int (oI (nbr (gsCr st) (gsT0 st)))), (0, .ref h)]) hx hb dX5_find_48 hl (by decide) rfl (fun ls hl => ?_)
      have L50 : ∀ (n50 : Nat) (z : Nat) (cn : Nat), 70 ≤ n50 + z → (z ≤ (gsCr st).1) → (cn = bR (gsCr st) (gsCd st) z) → (∀ x y, x < z → y < (gsCd st).1 → fitP (gsCr st) (gsCd st) x y = true → ¬ (nbr (gsCr st) (gsT0 st) = some x ∧ nbr (gsCd st) (gsT1 st) = some y)) → ∀ (Hl : Heap) (lcl : List Loc), gP G T I22 J37 Q O Hl → va_S A s.heap Hl lcl → ∀ ls : Array Slot, lv_has ls 6 [(0, .ref h), (1, .int (oI (nbr (gsCr st) (gsT0 st)))), (2, .int (oI (nbr (gsCd st) (gsT1 st)))), (3, .int (nI cn)), (4, .int (nI z))] → W p l e ({ frames := 4, cells := 0, slots := 0, locals := 103 } : Room) s m [.ref h].toArray below meth c Hl lcl 0 0 (MQ below (gQc A (fun x H1 => rFind st (fun x1 s1 => x = some (.int x1) ∧ moR G T h s1 H1) )) [.ref h].toArray s 0 0 A) (F0 m 50 ls []) := by
        intro n50
        induction n50 with
        | zero => intro z cn hn50 hz h1 h3; exact absurd hn50 (by omega)
        | succ n50 ih50 =>
          intro z cn hn50 hz h1 h3 Hl lcl hP hS ls hl
          refine lv_iload hx hb dX5_find_50 (lv_at hl 4 rfl) ?_
          refine lv_aload_n hx hb dX5_find_52 rfl (lv_at hl 0 rfl) ?_
          refine g_get hC hP hm.1 rfl inX5 9 (by decide) q3_15 hm.2.2.2.2.2.2.2.1.1 dX5_find_53 ?_
          refine lv_iconst (v := nI 0) hx hb dX5_find_56 (by decide) ?_
          refine g_iald hC hP hm.2.2.2.2.2.2.2.1.2 (vp_in_nI (by omega) (by decide)) dX5_find_57 ?_
          refine g_topi (y := nI ((gsCr st).1)) hcr0.1 ?_
          refine lv_icmp_ge (tgt := 115) hx hb dX5_find_58 (by decide) (fun c58 => ?_) (fun c58 => ?_)
          · have c58 := (nI_leI (by omega) (by omega)).mp c58
            refine lv_bipush (v := (-9)) hx hb dX5_find_115 (by decide) ?_
            refine g_retci hC hS ?_ dX5_find_117
            refine Or.inr ⟨mt (tot_0 hw0 (by omega)).mp c5, mt (tot_0 hw1 (by omega)).mp c13, ?_, mo_same hm hsn1 hP⟩
            unfold findV
            cases n0 : nbr (gsCr st) (gsT0 st) with
            | none => rfl
            | some x =>
              cases n1 : nbr (gsCd st) (gsT1 st) with
              | none => rfl
              | some y =>
                have ft := fit_tray hms hns hbd0 hbd1 hw0 hw1 c5 c13 n0 n1
                have b0 := (nbr_s n0).1
                have b1 := (nbr_s n1).1
                show _ = some (Value.int (if _ then _ else _))
                rw [if_neg (fun q => h3 x y (by omega) b1 (by rw [← ft]; exact q) ⟨n0, n1⟩)]
          · have c58 := mt (nI_leI (by omega) (by omega)).mpr c58
            refine lv_iconst (v := nI 0) hx hb dX5_find_61 (by decide) ?_
            refine lv_istore (lv' := [(5, .int (nI 0)), (0, .ref h), (1, .int (oI (nbr (gsCr st) (gsT0 st)))), (2, .int (oI (nbr (gsCd st) (gsT1 st)))), (3, .int (nI cn)), (4, .int (nI z))]) hx hb dX5_find_62 hl (by decide) rfl (fun ls hl => ?_)
            have L64 : ∀ (n64 : Nat) (y : Nat) (c2 : Nat), 70 ≤ n64 + y → (y ≤ (gsCd st).1) → (c2 = bR (gsCr st) (gsCd st) z + cntL (fitP (gsCr st) (gsCd st) z) y) → (∀ d, d < y → fitP (gsCr st) (gsCd st) z d = true → ¬ (nbr (gsCr st) (gsT0 st) = some z ∧ nbr (gsCd st) (gsT1 st) = some d)) → ∀ (Hl : Heap) (lcl : List Loc), gP G T I22 J37 Q O Hl → va_S A s.heap Hl lcl → ∀ ls : Array Slot, lv_has ls 6 [(0, .ref h), (1, .int (oI (nbr (gsCr st) (gsT0 st)))), (2, .int (oI (nbr (gsCd st) (gsT1 st)))), (3, .int (nI c2)), (4, .int (nI z)), (5, .int (nI y))] → W p l e ({ frames := 4, cells := 0, slots := 0, locals := 103 } : Room) s m [.ref h].toArray below meth c Hl lcl 0 0 (MQ below (gQc A (fun x H1 => rFind st (fun x1 s1 => x = some (.int x1) ∧ moR G T h s1 H1) )) [.ref h].toArray s 0 0 A) (F0 m 64 ls []) := by
              intro n64
              induction n64 with
              | zero => intro y c2 hn64 hy h2 h4; exact absurd hn64 (by omega)
              | succ n64 ih64 =>
                intro y c2 hn64 hy h2 h4 Hl lcl hP hS ls hl
                refine lv_iload hx hb dX5_find_64 (lv_at hl 5 rfl) ?_
                refine lv_aload_n hx hb dX5_find_66 rfl (lv_at hl 0 rfl) ?_
                refine g_get hC hP hm.1 rfl inX5 9 (by decide) q3_15 hm.2.2.2.2.2.2.2.1.1 dX5_find_67 ?_
                refine lv_iconst (v := nI 1) hx hb dX5_find_70 (by decide) ?_
                refine g_iald hC hP hm.2.2.2.2.2.2.2.1.2 (vp_in_nI (by omega) (by decide)) dX5_find_71 ?_
                refine g_topi (y := nI ((gsCd st).1)) hcr1.1 ?_
                refine lv_icmp_ge (tgt := 109) hx hb dX5_find_72 (by decide) (fun c72 => ?_) (fun c72 => ?_)
                · have c72 := (nI_leI (by omega) (by omega)).mp c72
                  refine lv_iinc (v := nI (z + 1)) (lv' := [(4, .int (nI (z + 1))), (0, .ref h), (1, .int (oI (nbr (gsCr st) (gsT0 st)))), (2, .int (oI (nbr (gsCd st) (gsT1 st)))), (3, .int (nI c2)), (5, .int (nI y))]) hx hb dX5_find_109 hl (k := 4) rfl (nI_inc _) (by decide) rfl (fun ls hl => ?_)
                  refine lv_goto (tgt := 50) hx hb dX5_find_112 (by decide) ?_
                  exact ih50 (z + 1) c2 (by omega) (by omega) (by rw [h2, show y = (gsCd st).1 from by omega]; rfl) (fun x d hx hd hf => by rcases Nat.lt_succ_iff_lt_or_eq.mp hx with q | rfl; (exact h3 x d q hd hf); (exact h4 d (by omega) hf)) _ _ hP hS ls (lv_sub hl [1, 2, 3, 4, 0] rfl)
                · have c72 := mt (nI_leI (by omega) (by omega)).mpr c72
                  refine lv_aload_n hx hb dX5_find_75 rfl (lv_at hl 0 rfl) ?_
                  refine lv_iload hx hb dX5_find_76 (lv_at hl 4 rfl) ?_
                  refine lv_iload hx hb dX5_find_78 (lv_at hl 5 rfl) ?_
                  refine g_cp (g_rV (As := [.int (nI z), .int (nI y)]) hC hP (c_X5_isBalance l hP (h := h) (a9 := z) (b9 := y) (Cr := gsCr st) (Cd := gsCd st) (by first | assumption | omega) hcr0 hcr1 hcb.2.1 hcb.2.2 hcb.1.1 hcb.1.2 (by first | assumption | omega) (by first | assumption | omega)) hm.1 rfl ⟨q3_221, q3_218, q3_220, qs_43, q1_6⟩ dd_X5_isBalance ⟨Nat.le_of_ble_eq_true rfl, Nat.le_of_ble_eq_true rfl, rfl, rfl⟩ hl.1 rfl (Nat.le_of_ble_eq_true rfl) dX5_find_80 ⟨Nat.le_of_ble_eq_true rfl, Nat.le_of_ble_eq_true rfl⟩) ?_
                  refine W.eq (g2 := F0 m 83 ls [.int (gb (fitP (gsCr st) (gsCd st) z y))]) rfl ?_
                  refine lv_if_eq (tgt := 103) hx hb dX5_find_83 (by decide) (fun c83 => ?_) (fun c83 => ?_)
                  · have c83 := gb_f c83
                    refine lv_iinc (v := nI (y + 1)) (lv' := [(5, .int (nI (y + 1))), (0, .ref h), (1, .int (oI (nbr (gsCr st) (gsT0 st)))), (2, .int (oI (nbr (gsCd st) (gsT1 st)))), (3, .int (nI c2)), (4, .int (nI z))]) hx hb dX5_find_103 hl (k := 5) rfl (nI_inc _) (by decide) rfl (fun ls hl => ?_)
                    refine lv_goto (tgt := 64) hx hb dX5_find_106 (by decide) ?_
                    exact ih64 (y + 1) c2 (by omega) (by omega) (by show _ = _ + (cntL _ y + (if fitP (gsCr st) (gsCd st) z y then 1 else 0)); rw [c83, h2]; first | (rw [if_pos rfl, Nat.add_assoc]) | (rw [if_neg (by decide), Nat.add_zero])) (fun d hd hf => by rcases Nat.lt_succ_iff_lt_or_eq.mp hd with q | rfl; (exact h4 d q hf); first | exact absurd (c83.symm.trans hf) (by decide) | exact (fun e => c89 (by rw [e.1]; rfl)) | exact (fun e => c95 (by rw [e.2]; rfl))) _ _ hP hS ls (lv_sub hl [1, 2, 3, 4, 5, 0] rfl)
                  · have c83 := gb_t c83
                    refine lv_iload hx hb dX5_find_86 (lv_at hl 4 rfl) ?_
                    refine lv_iload_n hx hb dX5_find_88 rfl (lv_at hl 1 rfl) ?_
                    refine lv_icmp_ne (tgt := 100) hx hb dX5_find_89 (by decide) (fun c89 => ?_) (fun c89 => ?_)
                    · refine lv_iinc (v := nI (c2 + 1)) (lv' := [(3, .int (nI (c2 + 1))), (0, .ref h), (1, .int (oI (nbr (gsCr st) (gsT0 st)))), (2, .int (oI (nbr (gsCd st) (gsT1 st)))), (4, .int (nI z)), (5, .int (nI y))]) hx hb dX5_find_100 hl (k := 3) rfl (nI_inc _) (by decide) rfl (fun ls hl => ?_)
                      refine lv_iinc (v := nI (y + 1)) (lv' := [(5, .int (nI (y + 1))), (3, .int (nI (c2 + 1))), (0, .ref h), (1, .int (oI (nbr (gsCr st) (gsT0 st)))), (2, .int (oI (nbr (gsCd st) (gsT1 st)))), (4, .int (nI z))]) hx hb dX5_find_103 hl (k := 5) rfl (nI_inc _) (by decide) rfl (fun ls hl => ?_)
                      refine lv_goto (tgt := 64) hx hb dX5_find_106 (by decide) ?_
                      exact ih64 (y + 1) (c2 + 1) (by omega) (by omega) (by show _ = _ + (cntL _ y + (if fitP (gsCr st) (gsCd st) z y then 1 else 0)); rw [c83, h2]; first | (rw [if_pos rfl, Nat.add_assoc]) | (rw [if_neg (by decide), Nat.add_zero])) (fun d hd hf => by rcases Nat.lt_succ_iff_lt_or_eq.mp hd with q | rfl; (exact h4 d q hf); first | exact absurd (c83.symm.trans hf) (by decide) | exact (fun e => c89 (by rw [e.1]; rfl)) | exact (fun e => c95 (by rw [e.2]; rfl))) _ _ hP hS ls (lv_sub hl [2, 3, 4, 1, 5, 0] rfl)
                    · refine lv_iload hx hb dX5_find_92 (lv_at hl 5 rfl) ?_
                      refine lv_iload_n hx hb dX5_find_94 rfl (lv_at hl 2 rfl) ?_
                      refine lv_icmp_ne (tgt := 100) hx hb dX5_find_95 (by decide) (fun c95 => ?_) (fun c95 => ?_)
                      · refine lv_iinc (v := nI (c2 + 1)) (lv' := [(3, .int (nI (c2 + 1))), (0, .ref h), (1, .int (oI (nbr (gsCr st) (gsT0 st)))), (2, .int (oI (nbr (gsCd st) (gsT1 st)))), (4, .int (nI z)), (5, .int (nI y))]) hx hb dX5_find_100 hl (k := 3) rfl (nI_inc _) (by decide) rfl (fun ls hl => ?_)
                        refine lv_iinc (v := nI (y + 1)) (lv' := [(5, .int (nI (y + 1))), (3, .int (nI (c2 + 1))), (0, .ref h), (1, .int (oI (nbr (gsCr st) (gsT0 st)))), (2, .int (oI (nbr (gsCd st) (gsT1 st)))), (4, .int (nI z))]) hx hb dX5_find_103 hl (k := 5) rfl (nI_inc _) (by decide) rfl (fun ls hl => ?_)
                        refine lv_goto (tgt := 64) hx hb dX5_find_106 (by decide) ?_
                        exact ih64 (y + 1) (c2 + 1) (by omega) (by omega) (by show _ = _ + (cntL _ y + (if fitP (gsCr st) (gsCd st) z y then 1 else 0)); rw [c83, h2]; first | (rw [if_pos rfl, Nat.add_assoc]) | (rw [if_neg (by decide), Nat.add_zero])) (fun d hd hf => by rcases Nat.lt_succ_iff_lt_or_eq.mp hd with q | rfl; (exact h4 d q hf); first | exact absurd (c83.symm.trans hf) (by decide) | exact (fun e => c89 (by rw [e.1]; rfl)) | exact (fun e => c95 (by rw [e.2]; rfl))) _ _ hP hS ls (lv_sub hl [2, 3, 4, 1, 5, 0] rfl)
                      · refine lv_iload_n hx hb dX5_find_98 rfl (lv_at hl 3 rfl) ?_
                        refine g_retci hC hS ?_ dX5_find_99
                        refine Or.inr ⟨mt (tot_0 hw0 (by omega)).mp c5, mt (tot_0 hw1 (by omega)).mp c13, ?_, mo_same hm hsn1 hP⟩
                        have n0 := oI_some (by omega) (nbr_b h690) c89
                        have n1 := oI_some (by omega) (nbr_b h691) c95
                        have ft := fit_tray hms hns hbd0 hbd1 hw0 hw1 c5 c13 n0 n1
                        unfold findV
                        rw [n0, n1, h2]
                        show _ = some (Value.int (if _ then _ else _))
                        rw [if_pos (by rw [ft]; exact c83)]
                        rfl
            exact L64 70 0 cn (by omega) (by omega) h1 (fun d hd => absurd hd (Nat.not_lt_zero d)) _ _ hP hS ls (lv_sub hl [1, 2, 3, 4, 5, 0] rfl)
      exact L50 70 0 0 (by omega) (by omega) rfl (fun x y hx => absurd hx (Nat.not_lt_zero x)) _ _ hP hS ls (lv_sub hl [4, 3, 2, 1, 0] rfl)
    · refine lv_aload_n hx hb dX5_find_16 rfl (lv_at hl 0 rfl) ?_
      refine lv_bipush (v := (-5)) hx hb dX5_find_17 (by decide) ?_
      refine g_cc (g_rV (As := [.int (-5 : Int32)]) hC hP (c_X5_refuse l hP (h := h) (q := (-5 : Int32)) (j := 5) (by first | assumption | omega) (by decide) (by omega)) hm.1 rfl ⟨q3_71, q3_68, q3_70, qs_25, q1_6⟩ dd_X5_refuse ⟨Nat.le_of_ble_eq_true rfl, Nat.le_of_ble_eq_true rfl, rfl, rfl⟩ hl.1 rfl (Nat.le_of_ble_eq_true rfl) dX5_find_19 ⟨Nat.le_of_ble_eq_true rfl, Nat.le_of_ble_eq_true rfl⟩) hS (fun q h => h.elim (hTA q) (fun z => hA q (Nat.le_trans hS.1 z))) (fun r42 H38 locs39 hq43 hS hz40 hfr41 => ?_)
      obtain ⟨rfl, hP⟩ := hq43
      obtain ⟨I44, hI44, hP⟩ : ∃ I44 : gI, I44 = au I (h + 4) 5 (I (h + 4) 5 + 1) ∧ gP G T I44 J Q O H38 := ⟨_, rfl, hP⟩
      refine W.eq (g2 := F0 m 22 ls [.int (-5 : Int32)]) rfl ?_
      refine g_retci hC hS ?_ dX5_find_22
      exact Or.inl ⟨(by first | exact Or.inl ((tot_0 hw0 (by omega)).mpr c5) | exact Or.inr ((tot_0 hw1 (by omega)).mpr c13)), rfl, mo_ref hm hs0 (j := 5) (by decide) hI44 hP⟩
