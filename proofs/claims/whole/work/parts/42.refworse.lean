/-! ===== the reference: worseBy ===== -/
def alM (P : Nat → Int32) (c B a : Nat) : Nat → Bool
  | 0 => true
  | k + 1 => alM P c B a k && (!B.testBit k || decide (P (c * 4 + k) < P (a * 4 + k)))
def wM (P : Nat → Int32) (c A B n a : Nat) : Bool := A.testBit a && alM P c B a n
theorem alM_iff {P : Nat → Int32} {c B a : Nat} : ∀ n, alM P c B a n = true ↔ ∀ k, k < n → B.testBit k = true → P (c * 4 + k) < P (a * 4 + k)
  | 0 => ⟨fun _ k hk => absurd hk (Nat.not_lt_zero k), fun _ => rfl⟩
  | n + 1 => by
    show (alM P c B a n && (!B.testBit n || decide (P (c * 4 + n) < P (a * 4 + n)))) = true ↔ _
    rw [Bool.and_eq_true, alM_iff n]
    constructor
    · rintro ⟨h1, h2⟩ k hk hb
      rcases Nat.lt_succ_iff_lt_or_eq.mp hk with h | rfl
      · exact h1 k h hb
      · rw [hb] at h2
        simpa using h2
    · intro h
      refine ⟨fun k hk => h k (by omega), ?_⟩
      cases hb : B.testBit n
      · rfl
      · simpa using h n (by omega) hb
set_option maxHeartbeats 4000000 in
set_option maxRecDepth 100000 in
theorem c_X5_worseBy_0 (l : Launch) {G : gG} {T : gTy} {I : gI} {J : gJ} {Q : gR} {O : gO} {H : Heap} (hP : gP G T I J Q O H) {h : Nat} {st : GS} {ci A9 B9 : Nat} (hm : isMo T O h) (hs0 : moS I h st) (hci : ci < 4) (hA9 : A9 < 16) (hB9 : B9 < 16) : Met l yX5_worseBy (gw yX5_worseBy cX5_worseBy 8 (some (.int))) ({ frames := 1, cells := 0, slots := 0, locals := 23 } : Room) (gPc G H [.ref h, .int (nI 0), .int (nI ci), .int (nI A9), .int (nI B9)]) (gQp (some (.int (oI (fstN (wM (gsP0 st) ci A9 B9 (gsn st)) (gsm st)))))) 0 0 (fun _ => False) := by
  refine g_met [(0, .ref h), (1, .int (nI 0)), (2, .int (nI ci)), (3, .int (nI A9)), (4, .int (nI B9))] (by decide) rfl (by exact Nat.le_of_ble_eq_true rfl) ?_
  intro p e s m below meth c hC hs ls hl
  have hx := hC.1.1
  have hb := hC.1.2.1
  have hms := hs0.1
  have hns := hs0.2.1
  refine lv_iconst (v := nI 0) hx hb dX5_worseBy_0 (by decide) ?_
  refine lv_istore (lv' := [(5, .int (nI 0)), (0, .ref h), (1, .int (nI 0)), (2, .int (nI ci)), (3, .int (nI A9)), (4, .int (nI B9))]) hx hb dX5_worseBy_1 hl (by decide) rfl (fun ls hl => ?_)
  have L3 : ∀ (n3 : Nat) (z : Nat), 5 ≤ n3 + z → (z ≤ gsm st) → (∀ j, j < z → wM (gsP0 st) ci A9 B9 (gsn st) j = false) → ∀ ls : Array Slot, lv_has ls 8 [(0, .ref h), (1, .int (nI 0)), (2, .int (nI ci)), (3, .int (nI A9)), (4, .int (nI B9)), (5, .int (nI z))] → W p l e ({ frames := 1, cells := 0, slots := 0, locals := 23 } : Room) s m [.ref h, .int (nI 0), .int (nI ci), .int (nI A9), .int (nI B9)].toArray below meth c H [] 0 0 (MQ below (gQp (some (.int (oI (fstN (wM (gsP0 st) ci A9 B9 (gsn st)) (gsm st)))))) [.ref h, .int (nI 0), .int (nI ci), .int (nI A9), .int (nI B9)].toArray s 0 0 (fun _ => False)) (F0 m 3 ls []) := by
    intro n3
    induction n3 with
    | zero => intro z hn3 hz h1; exact absurd hn3 (by omega)
    | succ n3 ih3 =>
      intro z hn3 hz h1 ls hl
      refine lv_iload hx hb dX5_worseBy_3 (lv_at hl 5 rfl) ?_
      refine lv_aload_n hx hb dX5_worseBy_5 rfl (lv_at hl 0 rfl) ?_
      refine g_get hC hP hm.1 rfl inX5 0 (by decide) q3_6 hm.2.1.1 dX5_worseBy_6 ?_
      refine lv_iload_n hx hb dX5_worseBy_9 rfl (lv_at hl 1 rfl) ?_
      refine g_iald hC hP hm.2.1.2 (vp_in_nI (by omega) (by decide)) dX5_worseBy_10 ?_
      refine g_topi (y := nI (gsm st)) hs0.2.2.1 ?_
      refine lv_icmp_ge (tgt := 109) hx hb dX5_worseBy_11 (by decide) (fun c11 => ?_) (fun c11 => ?_)
      · have c11 := (nI_leI (by omega) (by omega)).mp c11
        refine lv_bipush (v := (-9)) hx hb dX5_worseBy_109 (by decide) ?_
        refine g_reti hC hs ?_ dX5_worseBy_111
        rw [fstN_none (fun j hj => h1 j (by omega))]; rfl
      · have c11 := mt (nI_leI (by omega) (by omega)).mpr c11
        refine lv_iload_n hx hb dX5_worseBy_14 rfl (lv_at hl 3 rfl) ?_
        refine lv_iload hx hb dX5_worseBy_15 (lv_at hl 5 rfl) ?_
        refine lv_ishr hx hb dX5_worseBy_17 ?_
        refine lv_iconst (v := nI 1) hx hb dX5_worseBy_18 (by decide) ?_
        refine lv_iand hx hb dX5_worseBy_19 ?_
        refine g_topi (y := nI (if A9.testBit z then 1 else 0)) (g_bit hA9 (by omega)) ?_
        refine lv_iconst (v := nI 1) hx hb dX5_worseBy_20 (by decide) ?_
        refine lv_icmp_ne (tgt := 28) hx hb dX5_worseBy_21 (by decide) (fun c21 => ?_) (fun c21 => ?_)
        · have c21 : A9.testBit z = false := by by_cases h : A9.testBit z = true <;> simp_all
          refine lv_iconst (v := nI 0) hx hb dX5_worseBy_28 (by decide) ?_
          refine lv_istore (lv' := [(6, .int (nI 0)), (0, .ref h), (1, .int (nI 0)), (2, .int (nI ci)), (3, .int (nI A9)), (4, .int (nI B9)), (5, .int (nI z))]) hx hb dX5_worseBy_29 hl (by decide) rfl (fun ls hl => ?_)
          refine lv_iconst (v := nI 0) hx hb dX5_worseBy_31 (by decide) ?_
          refine lv_istore (lv' := [(7, .int (nI 0)), (6, .int (nI 0)), (0, .ref h), (1, .int (nI 0)), (2, .int (nI ci)), (3, .int (nI A9)), (4, .int (nI B9)), (5, .int (nI z))]) hx hb dX5_worseBy_32 hl (by decide) rfl (fun ls hl => ?_)
          have L34 : ∀ (n34 : Nat) (y : Nat) (ok : Bool), 5 ≤ n34 + y → (y ≤ gsn st) → (ok = (A9.testBit z && alM (gsP0 st) ci B9 z y)) → ∀ ls : Array Slot, lv_has ls 8 [(0, .ref h), (1, .int (nI 0)), (2, .int (nI ci)), (3, .int (nI A9)), (4, .int (nI B9)), (5, .int (nI z)), (6, .int (gb ok)), (7, .int (nI y))] → W p l e ({ frames := 1, cells := 0, slots := 0, locals := 23 } : Room) s m [.ref h, .int (nI 0), .int (nI ci), .int (nI A9), .int (nI B9)].toArray below meth c H [] 0 0 (MQ below (gQp (some (.int (oI (fstN (wM (gsP0 st) ci A9 B9 (gsn st)) (gsm st)))))) [.ref h, .int (nI 0), .int (nI ci), .int (nI A9), .int (nI B9)].toArray s 0 0 (fun _ => False)) (F0 m 34 ls []) := by
            intro n34
            induction n34 with
            | zero => intro y ok hn34 hy h2; exact absurd hn34 (by omega)
            | succ n34 ih34 =>
              intro y ok hn34 hy h2 ls hl
              refine lv_iload hx hb dX5_worseBy_34 (lv_at hl 7 rfl) ?_
              refine lv_aload_n hx hb dX5_worseBy_36 rfl (lv_at hl 0 rfl) ?_
              refine g_get hC hP hm.1 rfl inX5 0 (by decide) q3_6 hm.2.1.1 dX5_worseBy_37 ?_
              refine lv_iconst (v := nI 1) hx hb dX5_worseBy_40 (by decide) ?_
              refine lv_iload_n hx hb dX5_worseBy_41 rfl (lv_at hl 1 rfl) ?_
              refine lv_isub hx hb dX5_worseBy_42 ?_
              refine g_topi (y := nI 1) (by decide) ?_
              refine g_iald hC hP hm.2.1.2 (vp_in_nI (by omega) (by decide)) dX5_worseBy_43 ?_
              refine g_topi (y := nI (gsn st)) hs0.2.2.2.1 ?_
              refine lv_icmp_ge (tgt := 95) hx hb dX5_worseBy_44 (by decide) (fun c44 => ?_) (fun c44 => ?_)
              · have c44 := (nI_leI (by omega) (by omega)).mp c44
                refine lv_iload hx hb dX5_worseBy_95 (lv_at hl 6 rfl) ?_
                refine lv_if_eq (tgt := 103) hx hb dX5_worseBy_97 (by decide) (fun c97 => ?_) (fun c97 => ?_)
                · have c97 := gb_f c97
                  refine lv_iinc (v := nI (z + 1)) (lv' := [(5, .int (nI (z + 1))), (0, .ref h), (1, .int (nI 0)), (2, .int (nI ci)), (3, .int (nI A9)), (4, .int (nI B9)), (6, .int (gb ok)), (7, .int (nI y))]) hx hb dX5_worseBy_103 hl (k := 5) rfl (nI_inc _) (by decide) rfl (fun ls hl => ?_)
                  refine lv_goto (tgt := 3) hx hb dX5_worseBy_106 (by decide) ?_
                  exact ih3 (z + 1) (by omega) (by omega) (fun j hj => by rcases Nat.lt_succ_iff_lt_or_eq.mp hj with h | rfl; (exact h1 j h); (unfold wM; rw [show gsn st = y from by omega, ← h2]; exact c97)) ls (lv_sub hl [1, 2, 3, 4, 5, 0] rfl)
                · have c97 := gb_t c97
                  refine lv_iload hx hb dX5_worseBy_100 (lv_at hl 5 rfl) ?_
                  refine g_reti hC hs ?_ dX5_worseBy_102
                  rw [fstN_some (i := z) (by omega) (by unfold wM; rw [show gsn st = y from by omega, ← h2]; exact c97) h1]; rfl
              · have c44 := mt (nI_leI (by omega) (by omega)).mpr c44
                refine lv_iload hx hb dX5_worseBy_47 (lv_at hl 6 rfl) ?_
                refine lv_if_eq (tgt := 86) hx hb dX5_worseBy_49 (by decide) (fun c49 => ?_) (fun c49 => ?_)
                · have c49 := gb_f c49
                  refine lv_iconst (v := nI 0) hx hb dX5_worseBy_86 (by decide) ?_
                  refine lv_istore (lv' := [(6, .int (nI 0)), (0, .ref h), (1, .int (nI 0)), (2, .int (nI ci)), (3, .int (nI A9)), (4, .int (nI B9)), (5, .int (nI z)), (7, .int (nI y))]) hx hb dX5_worseBy_87 hl (by decide) rfl (fun ls hl => ?_)
                  refine lv_iinc (v := nI (y + 1)) (lv' := [(7, .int (nI (y + 1))), (6, .int (nI 0)), (0, .ref h), (1, .int (nI 0)), (2, .int (nI ci)), (3, .int (nI A9)), (4, .int (nI B9)), (5, .int (nI z))]) hx hb dX5_worseBy_89 hl (k := 7) rfl (nI_inc _) (by decide) rfl (fun ls hl => ?_)
                  refine lv_goto (tgt := 34) hx hb dX5_worseBy_92 (by decide) ?_
                  exact ih34 (y + 1) false (by omega) (by omega) (by show _ = (A9.testBit z && (alM (gsP0 st) ci B9 z y && (!B9.testBit y || decide (gsP0 st (ci * 4 + y) < gsP0 st (z * 4 + y))))); rw [← Bool.and_assoc, ← h2]; first | (rw [c49]; rfl) | (rw [c49, c59]; rfl) | (rw [c49, c59, decide_eq_true (Int32.not_le.mp c79)]; rfl) | (rw [c49, c59, decide_eq_false (Int32.not_lt.mpr c79)]; rfl)) ls (lv_sub hl [2, 3, 4, 5, 6, 7, 1, 0] rfl)
                · have c49 := gb_t c49
                  refine lv_iload hx hb dX5_worseBy_52 (lv_at hl 4 rfl) ?_
                  refine lv_iload hx hb dX5_worseBy_54 (lv_at hl 7 rfl) ?_
                  refine lv_ishr hx hb dX5_worseBy_56 ?_
                  refine lv_iconst (v := nI 1) hx hb dX5_worseBy_57 (by decide) ?_
                  refine lv_iand hx hb dX5_worseBy_58 ?_
                  refine g_topi (y := gb (B9.testBit y)) ((g_bit hB9 (by omega)).trans (by cases B9.testBit y <;> rfl)) ?_
                  refine lv_if_eq (tgt := 82) hx hb dX5_worseBy_59 (by decide) (fun c59 => ?_) (fun c59 => ?_)
                  · have c59 := gb_f c59
                    refine lv_iconst (v := nI 1) hx hb dX5_worseBy_82 (by decide) ?_
                    refine lv_goto (tgt := 87) hx hb dX5_worseBy_83 (by decide) ?_
                    refine lv_istore (lv' := [(6, .int (nI 1)), (0, .ref h), (1, .int (nI 0)), (2, .int (nI ci)), (3, .int (nI A9)), (4, .int (nI B9)), (5, .int (nI z)), (7, .int (nI y))]) hx hb dX5_worseBy_87 hl (by decide) rfl (fun ls hl => ?_)
                    refine lv_iinc (v := nI (y + 1)) (lv' := [(7, .int (nI (y + 1))), (6, .int (nI 1)), (0, .ref h), (1, .int (nI 0)), (2, .int (nI ci)), (3, .int (nI A9)), (4, .int (nI B9)), (5, .int (nI z))]) hx hb dX5_worseBy_89 hl (k := 7) rfl (nI_inc _) (by decide) rfl (fun ls hl => ?_)
                    refine lv_goto (tgt := 34) hx hb dX5_worseBy_92 (by decide) ?_
                    exact ih34 (y + 1) true (by omega) (by omega) (by show _ = (A9.testBit z && (alM (gsP0 st) ci B9 z y && (!B9.testBit y || decide (gsP0 st (ci * 4 + y) < gsP0 st (z * 4 + y))))); rw [← Bool.and_assoc, ← h2]; first | (rw [c49]; rfl) | (rw [c49, c59]; rfl) | (rw [c49, c59, decide_eq_true (Int32.not_le.mp c79)]; rfl) | (rw [c49, c59, decide_eq_false (Int32.not_lt.mpr c79)]; rfl)) ls (lv_sub hl [2, 3, 4, 5, 6, 7, 1, 0] rfl)
                  · have c59 := gb_t c59
                    refine lv_aload_n hx hb dX5_worseBy_62 rfl (lv_at hl 0 rfl) ?_
                    refine lv_iload_n hx hb dX5_worseBy_63 rfl (lv_at hl 1 rfl) ?_
                    refine lv_iload hx hb dX5_worseBy_64 (lv_at hl 5 rfl) ?_
                    refine lv_iload hx hb dX5_worseBy_66 (lv_at hl 7 rfl) ?_
                    refine g_cp (g_rV (As := [.int (nI 0), .int (nI z), .int (nI y)]) hC hP (c_X5_get l hP (h := h) (w := 0) (i := z) (k := y) (by first | assumption | omega) (by first | assumption | omega) (by first | assumption | omega) (by first | assumption | omega) (by first | assumption | omega)) hm.1 rfl ⟨q3_139, q3_136, q3_138, qs_34, q1_6⟩ dd_X5_get ⟨Nat.le_of_ble_eq_true rfl, Nat.le_of_ble_eq_true rfl, rfl, rfl⟩ hl.1 rfl (Nat.le_of_ble_eq_true rfl) dX5_worseBy_68 ⟨Nat.le_of_ble_eq_true rfl, Nat.le_of_ble_eq_true rfl⟩) ?_
                    refine W.eq (g2 := F0 m 71 ls [.int (gsP0 st (z * 4 + y))]) rfl ?_
                    refine lv_aload_n hx hb dX5_worseBy_71 rfl (lv_at hl 0 rfl) ?_
                    refine lv_iload_n hx hb dX5_worseBy_72 rfl (lv_at hl 1 rfl) ?_
                    refine lv_iload_n hx hb dX5_worseBy_73 rfl (lv_at hl 2 rfl) ?_
                    refine lv_iload hx hb dX5_worseBy_74 (lv_at hl 7 rfl) ?_
                    refine g_cp (g_rV (As := [.int (nI 0), .int (nI ci), .int (nI y)]) hC hP (c_X5_get l hP (h := h) (w := 0) (i := ci) (k := y) (by first | assumption | omega) (by first | assumption | omega) (by first | assumption | omega) (by first | assumption | omega) (by first | assumption | omega)) hm.1 rfl ⟨q3_139, q3_136, q3_138, qs_34, q1_6⟩ dd_X5_get ⟨Nat.le_of_ble_eq_true rfl, Nat.le_of_ble_eq_true rfl, rfl, rfl⟩ hl.1 rfl (Nat.le_of_ble_eq_true rfl) dX5_worseBy_76 ⟨Nat.le_of_ble_eq_true rfl, Nat.le_of_ble_eq_true rfl⟩) ?_
                    refine W.eq (g2 := F0 m 79 ls [.int (gsP0 st (ci * 4 + y)), .int (gsP0 st (z * 4 + y))]) rfl ?_
                    refine lv_icmp_le (tgt := 86) hx hb dX5_worseBy_79 (by decide) (fun c79 => ?_) (fun c79 => ?_)
                    · refine lv_iconst (v := nI 0) hx hb dX5_worseBy_86 (by decide) ?_
                      refine lv_istore (lv' := [(6, .int (nI 0)), (0, .ref h), (1, .int (nI 0)), (2, .int (nI ci)), (3, .int (nI A9)), (4, .int (nI B9)), (5, .int (nI z)), (7, .int (nI y))]) hx hb dX5_worseBy_87 hl (by decide) rfl (fun ls hl => ?_)
                      refine lv_iinc (v := nI (y + 1)) (lv' := [(7, .int (nI (y + 1))), (6, .int (nI 0)), (0, .ref h), (1, .int (nI 0)), (2, .int (nI ci)), (3, .int (nI A9)), (4, .int (nI B9)), (5, .int (nI z))]) hx hb dX5_worseBy_89 hl (k := 7) rfl (nI_inc _) (by decide) rfl (fun ls hl => ?_)
                      refine lv_goto (tgt := 34) hx hb dX5_worseBy_92 (by decide) ?_
                      exact ih34 (y + 1) false (by omega) (by omega) (by show _ = (A9.testBit z && (alM (gsP0 st) ci B9 z y && (!B9.testBit y || decide (gsP0 st (ci * 4 + y) < gsP0 st (z * 4 + y))))); rw [← Bool.and_assoc, ← h2]; first | (rw [c49]; rfl) | (rw [c49, c59]; rfl) | (rw [c49, c59, decide_eq_true (Int32.not_le.mp c79)]; rfl) | (rw [c49, c59, decide_eq_false (Int32.not_lt.mpr c79)]; rfl)) ls (lv_sub hl [2, 3, 4, 5, 6, 7, 1, 0] rfl)
                    · refine lv_iconst (v := nI 1) hx hb dX5_worseBy_82 (by decide) ?_
                      refine lv_goto (tgt := 87) hx hb dX5_worseBy_83 (by decide) ?_
                      refine lv_istore (lv' := [(6, .int (nI 1)), (0, .ref h), (1, .int (nI 0)), (2, .int (nI ci)), (3, .int (nI A9)), (4, .int (nI B9)), (5, .int (nI z)), (7, .int (nI y))]) hx hb dX5_worseBy_87 hl (by decide) rfl (fun ls hl => ?_)
                      refine lv_iinc (v := nI (y + 1)) (lv' := [(7, .int (nI (y + 1))), (6, .int (nI 1)), (0, .ref h), (1, .int (nI 0)), (2, .int (nI ci)), (3, .int (nI A9)), (4, .int (nI B9)), (5, .int (nI z))]) hx hb dX5_worseBy_89 hl (k := 7) rfl (nI_inc _) (by decide) rfl (fun ls hl => ?_)
                      refine lv_goto (tgt := 34) hx hb dX5_worseBy_92 (by decide) ?_
                      exact ih34 (y + 1) true (by omega) (by omega) (by show _ = (A9.testBit z && (alM (gsP0 st) ci B9 z y && (!B9.testBit y || decide (gsP0 st (ci * 4 + y) < gsP0 st (z * 4 + y))))); rw [← Bool.and_assoc, ← h2]; first | (rw [c49]; rfl) | (rw [c49, c59]; rfl) | (rw [c49, c59, decide_eq_true (Int32.not_le.mp c79)]; rfl) | (rw [c49, c59, decide_eq_false (Int32.not_lt.mpr c79)]; rfl)) ls (lv_sub hl [2, 3, 4, 5, 6, 7, 1, 0] rfl)
          exact L34 5 0 false (by omega) (by omega) (by rw [c21]; rfl) ls (lv_sub hl [2, 3, 4, 5, 6, 7, 1, 0] rfl)
        · have c21 : A9.testBit z = true := by by_cases h : A9.testBit z = true <;> simp_all [nI]
          refine lv_iconst (v := nI 1) hx hb dX5_worseBy_24 (by decide) ?_
          refine lv_goto (tgt := 29) hx hb dX5_worseBy_25 (by decide) ?_
          refine lv_istore (lv' := [(6, .int (nI 1)), (0, .ref h), (1, .int (nI 0)), (2, .int (nI ci)), (3, .int (nI A9)), (4, .int (nI B9)), (5, .int (nI z))]) hx hb dX5_worseBy_29 hl (by decide) rfl (fun ls hl => ?_)
          refine lv_iconst (v := nI 0) hx hb dX5_worseBy_31 (by decide) ?_
          refine lv_istore (lv' := [(7, .int (nI 0)), (6, .int (nI 1)), (0, .ref h), (1, .int (nI 0)), (2, .int (nI ci)), (3, .int (nI A9)), (4, .int (nI B9)), (5, .int (nI z))]) hx hb dX5_worseBy_32 hl (by decide) rfl (fun ls hl => ?_)
          have L34 : ∀ (n34 : Nat) (y : Nat) (ok : Bool), 5 ≤ n34 + y → (y ≤ gsn st) → (ok = (A9.testBit z && alM (gsP0 st) ci B9 z y)) → ∀ ls : Array Slot, lv_has ls 8 [(0, .ref h), (1, .int (nI 0)), (2, .int (nI ci)), (3, .int (nI A9)), (4, .int (nI B9)), (5, .int (nI z)), (6, .int (gb ok)), (7, .int (nI y))] → W p l e ({ frames := 1, cells := 0, slots := 0, locals := 23 } : Room) s m [.ref h, .int (nI 0), .int (nI ci), .int (nI A9), .int (nI B9)].toArray below meth c H [] 0 0 (MQ below (gQp (some (.int (oI (fstN (wM (gsP0 st) ci A9 B9 (gsn st)) (gsm st)))))) [.ref h, .int (nI 0), .int (nI ci), .int (nI A9), .int (nI B9)].toArray s 0 0 (fun _ => False)) (F0 m 34 ls []) := by
            intro n34
            induction n34 with
            | zero => intro y ok hn34 hy h2; exact absurd hn34 (by omega)
            | succ n34 ih34 =>
              intro y ok hn34 hy h2 ls hl
              refine lv_iload hx hb dX5_worseBy_34 (lv_at hl 7 rfl) ?_
              refine lv_aload_n hx hb dX5_worseBy_36 rfl (lv_at hl 0 rfl) ?_
              refine g_get hC hP hm.1 rfl inX5 0 (by decide) q3_6 hm.2.1.1 dX5_worseBy_37 ?_
              refine lv_iconst (v := nI 1) hx hb dX5_worseBy_40 (by decide) ?_
              refine lv_iload_n hx hb dX5_worseBy_41 rfl (lv_at hl 1 rfl) ?_
              refine lv_isub hx hb dX5_worseBy_42 ?_
              refine g_topi (y := nI 1) (by decide) ?_
              refine g_iald hC hP hm.2.1.2 (vp_in_nI (by omega) (by decide)) dX5_worseBy_43 ?_
              refine g_topi (y := nI (gsn st)) hs0.2.2.2.1 ?_
              refine lv_icmp_ge (tgt := 95) hx hb dX5_worseBy_44 (by decide) (fun c44 => ?_) (fun c44 => ?_)
              · have c44 := (nI_leI (by omega) (by omega)).mp c44
                refine lv_iload hx hb dX5_worseBy_95 (lv_at hl 6 rfl) ?_
                refine lv_if_eq (tgt := 103) hx hb dX5_worseBy_97 (by decide) (fun c97 => ?_) (fun c97 => ?_)
                · have c97 := gb_f c97
                  refine lv_iinc (v := nI (z + 1)) (lv' := [(5, .int (nI (z + 1))), (0, .ref h), (1, .int (nI 0)), (2, .int (nI ci)), (3, .int (nI A9)), (4, .int (nI B9)), (6, .int (gb ok)), (7, .int (nI y))]) hx hb dX5_worseBy_103 hl (k := 5) rfl (nI_inc _) (by decide) rfl (fun ls hl => ?_)
                  refine lv_goto (tgt := 3) hx hb dX5_worseBy_106 (by decide) ?_
                  exact ih3 (z + 1) (by omega) (by omega) (fun j hj => by rcases Nat.lt_succ_iff_lt_or_eq.mp hj with h | rfl; (exact h1 j h); (unfold wM; rw [show gsn st = y from by omega, ← h2]; exact c97)) ls (lv_sub hl [1, 2, 3, 4, 5, 0] rfl)
                · have c97 := gb_t c97
                  refine lv_iload hx hb dX5_worseBy_100 (lv_at hl 5 rfl) ?_
                  refine g_reti hC hs ?_ dX5_worseBy_102
                  rw [fstN_some (i := z) (by omega) (by unfold wM; rw [show gsn st = y from by omega, ← h2]; exact c97) h1]; rfl
              · have c44 := mt (nI_leI (by omega) (by omega)).mpr c44
                refine lv_iload hx hb dX5_worseBy_47 (lv_at hl 6 rfl) ?_
                refine lv_if_eq (tgt := 86) hx hb dX5_worseBy_49 (by decide) (fun c49 => ?_) (fun c49 => ?_)
                · have c49 := gb_f c49
                  refine lv_iconst (v := nI 0) hx hb dX5_worseBy_86 (by decide) ?_
                  refine lv_istore (lv' := [(6, .int (nI 0)), (0, .ref h), (1, .int (nI 0)), (2, .int (nI ci)), (3, .int (nI A9)), (4, .int (nI B9)), (5, .int (nI z)), (7, .int (nI y))]) hx hb dX5_worseBy_87 hl (by decide) rfl (fun ls hl => ?_)
                  refine lv_iinc (v := nI (y + 1)) (lv' := [(7, .int (nI (y + 1))), (6, .int (nI 0)), (0, .ref h), (1, .int (nI 0)), (2, .int (nI ci)), (3, .int (nI A9)), (4, .int (nI B9)), (5, .int (nI z))]) hx hb dX5_worseBy_89 hl (k := 7) rfl (nI_inc _) (by decide) rfl (fun ls hl => ?_)
                  refine lv_goto (tgt := 34) hx hb dX5_worseBy_92 (by decide) ?_
                  exact ih34 (y + 1) false (by omega) (by omega) (by show _ = (A9.testBit z && (alM (gsP0 st) ci B9 z y && (!B9.testBit y || decide (gsP0 st (ci * 4 + y) < gsP0 st (z * 4 + y))))); rw [← Bool.and_assoc, ← h2]; first | (rw [c49]; rfl) | (rw [c49, c59]; rfl) | (rw [c49, c59, decide_eq_true (Int32.not_le.mp c79)]; rfl) | (rw [c49, c59, decide_eq_false (Int32.not_lt.mpr c79)]; rfl)) ls (lv_sub hl [2, 3, 4, 5, 6, 7, 1, 0] rfl)
                · have c49 := gb_t c49
                  refine lv_iload hx hb dX5_worseBy_52 (lv_at hl 4 rfl) ?_
                  refine lv_iload hx hb dX5_worseBy_54 (lv_at hl 7 rfl) ?_
                  refine lv_ishr hx hb dX5_worseBy_56 ?_
                  refine lv_iconst (v := nI 1) hx hb dX5_worseBy_57 (by decide) ?_
                  refine lv_iand hx hb dX5_worseBy_58 ?_
                  refine g_topi (y := gb (B9.testBit y)) ((g_bit hB9 (by omega)).trans (by cases B9.testBit y <;> rfl)) ?_
                  refine lv_if_eq (tgt := 82) hx hb dX5_worseBy_59 (by decide) (fun c59 => ?_) (fun c59 => ?_)
                  · have c59 := gb_f c59
                    refine lv_iconst (v := nI 1) hx hb dX5_worseBy_82 (by decide) ?_
                    refine lv_goto (tgt := 87) hx hb dX5_worseBy_83 (by decide) ?_
                    refine lv_istore (lv' := [(6, .int (nI 1)), (0, .ref h), (1, .int (nI 0)), (2, .int (nI ci)), (3, .int (nI A9)), (4, .int (nI B9)), (5, .int (nI z)), (7, .int (nI y))]) hx hb dX5_worseBy_87 hl (by decide) rfl (fun ls hl => ?_)
                    refine lv_iinc (v := nI (y + 1)) (lv' := [(7, .int (nI (y + 1))), (6, .int (nI 1)), (0, .ref h), (1, .int (nI 0)), (2, .int (nI ci)), (3, .int (nI A9)), (4, .int (nI B9)), (5, .int (nI z))]) hx hb dX5_worseBy_89 hl (k := 7) rfl (nI_inc _) (by decide) rfl (fun ls hl => ?_)
                    refine lv_goto (tgt := 34) hx hb dX5_worseBy_92 (by decide) ?_
                    exact ih34 (y + 1) true (by omega) (by omega) (by show _ = (A9.testBit z && (alM (gsP0 st) ci B9 z y && (!B9.testBit y || decide (gsP0 st (ci * 4 + y) < gsP0 st (z * 4 + y))))); rw [← Bool.and_assoc, ← h2]; first | (rw [c49]; rfl) | (rw [c49, c59]; rfl) | (rw [c49, c59, decide_eq_true (Int32.not_le.mp c79)]; rfl) | (rw [c49, c59, decide_eq_false (Int32.not_lt.mpr c79)]; rfl)) ls (lv_sub hl [2, 3, 4, 5, 6, 7, 1, 0] rfl)
                  · have c59 := gb_t c59
                    refine lv_aload_n hx hb dX5_worseBy_62 rfl (lv_at hl 0 rfl) ?_
                    refine lv_iload_n hx hb dX5_worseBy_63 rfl (lv_at hl 1 rfl) ?_
                    refine lv_iload hx hb dX5_worseBy_64 (lv_at hl 5 rfl) ?_
                    refine lv_iload hx hb dX5_worseBy_66 (lv_at hl 7 rfl) ?_
                    refine g_cp (g_rV (As := [.int (nI 0), .int (nI z), .int (nI y)]) hC hP (c_X5_get l hP (h := h) (w := 0) (i := z) (k := y) (by first | assumption | omega) (by first | assumption | omega) (by first | assumption | omega) (by first | assumption | omega) (by first | assumption | omega)) hm.1 rfl ⟨q3_139, q3_136, q3_138, qs_34, q1_6⟩ dd_X5_get ⟨Nat.le_of_ble_eq_true rfl, Nat.le_of_ble_eq_true rfl, rfl, rfl⟩ hl.1 rfl (Nat.le_of_ble_eq_true rfl) dX5_worseBy_68 ⟨Nat.le_of_ble_eq_true rfl, Nat.le_of_ble_eq_true rfl⟩) ?_
                    refine W.eq (g2 := F0 m 71 ls [.int (gsP0 st (z * 4 + y))]) rfl ?_
                    refine lv_aload_n hx hb dX5_worseBy_71 rfl (lv_at hl 0 rfl) ?_
                    refine lv_iload_n hx hb dX5_worseBy_72 rfl (lv_at hl 1 rfl) ?_
                    refine lv_iload_n hx hb dX5_worseBy_73 rfl (lv_at hl 2 rfl) ?_
                    refine lv_iload hx hb dX5_worseBy_74 (lv_at hl 7 rfl) ?_
                    refine g_cp (g_rV (As := [.int (nI 0), .int (nI ci), .int (nI y)]) hC hP (c_X5_get l hP (h := h) (w := 0) (i := ci) (k := y) (by first | assumption | omega) (by first | assumption | omega) (by first | assumption | omega) (by first | assumption | omega) (by first | assumption | omega)) hm.1 rfl ⟨q3_139, q3_136, q3_138, qs_34, q1_6⟩ dd_X5_get ⟨Nat.le_of_ble_eq_true rfl, Nat.le_of_ble_eq_true rfl, rfl, rfl⟩ hl.1 rfl (Nat.le_of_ble_eq_true rfl) dX5_worseBy_76 ⟨Nat.le_of_ble_eq_true rfl, Nat.le_of_ble_eq_true rfl⟩) ?_
                    refine W.eq (g2 := F0 m 79 ls [.int (gsP0 st (ci * 4 + y)), .int (gsP0 st (z * 4 + y))]) rfl ?_
                    refine lv_icmp_le (tgt := 86) hx hb dX5_worseBy_79 (by decide) (fun c79 => ?_) (fun c79 => ?_)
                    · refine lv_iconst (v := nI 0) hx hb dX5_worseBy_86 (by decide) ?_
                      refine lv_istore (lv' := [(6, .int (nI 0)), (0, .ref h), (1, .int (nI 0)), (2, .int (nI ci)), (3, .int (nI A9)), (4, .int (nI B9)), (5, .int (nI z)), (7, .int (nI y))]) hx hb dX5_worseBy_87 hl (by decide) rfl (fun ls hl => ?_)
                      refine lv_iinc (v := nI (y + 1)) (lv' := [(7, .int (nI (y + 1))), (6, .int (nI 0)), (0, .ref h), (1, .int (nI 0)), (2, .int (nI ci)), (3, .int (nI A9)), (4, .int (nI B9)), (5, .int (nI z))]) hx hb dX5_worseBy_89 hl (k := 7) rfl (nI_inc _) (by decide) rfl (fun ls hl => ?_)
                      refine lv_goto (tgt := 34) hx hb dX5_worseBy_92 (by decide) ?_
                      exact ih34 (y + 1) false (by omega) (by omega) (by show _ = (A9.testBit z && (alM (gsP0 st) ci B9 z y && (!B9.testBit y || decide (gsP0 st (ci * 4 + y) < gsP0 st (z * 4 + y))))); rw [← Bool.and_assoc, ← h2]; first | (rw [c49]; rfl) | (rw [c49, c59]; rfl) | (rw [c49, c59, decide_eq_true (Int32.not_le.mp c79)]; rfl) | (rw [c49, c59, decide_eq_false (Int32.not_lt.mpr c79)]; rfl)) ls (lv_sub hl [2, 3, 4, 5, 6, 7, 1, 0] rfl)
                    · refine lv_iconst (v := nI 1) hx hb dX5_worseBy_82 (by decide) ?_
                      refine lv_goto (tgt := 87) hx hb dX5_worseBy_83 (by decide) ?_
                      refine lv_istore (lv' := [(6, .int (nI 1)), (0, .ref h), (1, .int (nI 0)), (2, .int (nI ci)), (3, .int (nI A9)), (4, .int (nI B9)), (5, .int (nI z)), (7, .int (nI y))]) hx hb dX5_worseBy_87 hl (by decide) rfl (fun ls hl => ?_)
                      refine lv_iinc (v := nI (y + 1)) (lv' := [(7, .int (nI (y + 1))), (6, .int (nI 1)), (0, .ref h), (1, .int (nI 0)), (2, .int (nI ci)), (3, .int (nI A9)), (4, .int (nI B9)), (5, .int (nI z))]) hx hb dX5_worseBy_89 hl (k := 7) rfl (nI_inc _) (by decide) rfl (fun ls hl => ?_)
                      refine lv_goto (tgt := 34) hx hb dX5_worseBy_92 (by decide) ?_
                      exact ih34 (y + 1) true (by omega) (by omega) (by show _ = (A9.testBit z && (alM (gsP0 st) ci B9 z y && (!B9.testBit y || decide (gsP0 st (ci * 4 + y) < gsP0 st (z * 4 + y))))); rw [← Bool.and_assoc, ← h2]; first | (rw [c49]; rfl) | (rw [c49, c59]; rfl) | (rw [c49, c59, decide_eq_true (Int32.not_le.mp c79)]; rfl) | (rw [c49, c59, decide_eq_false (Int32.not_lt.mpr c79)]; rfl)) ls (lv_sub hl [2, 3, 4, 5, 6, 7, 1, 0] rfl)
          exact L34 5 0 true (by omega) (by omega) (by rw [c21]; rfl) ls (lv_sub hl [2, 3, 4, 5, 6, 7, 1, 0] rfl)
  exact L3 5 0 (by omega) (by omega) (fun j hj => absurd hj (Nat.not_lt_zero j)) ls (lv_sub hl [1, 2, 3, 4, 5, 0] rfl)
set_option maxHeartbeats 4000000 in
set_option maxRecDepth 100000 in
theorem c_X5_worseBy_1 (l : Launch) {G : gG} {T : gTy} {I : gI} {J : gJ} {Q : gR} {O : gO} {H : Heap} (hP : gP G T I J Q O H) {h : Nat} {st : GS} {ci A9 B9 : Nat} (hm : isMo T O h) (hs0 : moS I h st) (hci : ci < 4) (hA9 : A9 < 16) (hB9 : B9 < 16) : Met l yX5_worseBy (gw yX5_worseBy cX5_worseBy 8 (some (.int))) ({ frames := 1, cells := 0, slots := 0, locals := 23 } : Room) (gPc G H [.ref h, .int (nI 1), .int (nI ci), .int (nI A9), .int (nI B9)]) (gQp (some (.int (oI (fstN (wM (gsP1 st) ci A9 B9 (gsm st)) (gsn st)))))) 0 0 (fun _ => False) := by
  refine g_met [(0, .ref h), (1, .int (nI 1)), (2, .int (nI ci)), (3, .int (nI A9)), (4, .int (nI B9))] (by decide) rfl (by exact Nat.le_of_ble_eq_true rfl) ?_
  intro p e s m below meth c hC hs ls hl
  have hx := hC.1.1
  have hb := hC.1.2.1
  have hms := hs0.1
  have hns := hs0.2.1
  refine lv_iconst (v := nI 0) hx hb dX5_worseBy_0 (by decide) ?_
  refine lv_istore (lv' := [(5, .int (nI 0)), (0, .ref h), (1, .int (nI 1)), (2, .int (nI ci)), (3, .int (nI A9)), (4, .int (nI B9))]) hx hb dX5_worseBy_1 hl (by decide) rfl (fun ls hl => ?_)
  have L3 : ∀ (n3 : Nat) (z : Nat), 5 ≤ n3 + z → (z ≤ gsn st) → (∀ j, j < z → wM (gsP1 st) ci A9 B9 (gsm st) j = false) → ∀ ls : Array Slot, lv_has ls 8 [(0, .ref h), (1, .int (nI 1)), (2, .int (nI ci)), (3, .int (nI A9)), (4, .int (nI B9)), (5, .int (nI z))] → W p l e ({ frames := 1, cells := 0, slots := 0, locals := 23 } : Room) s m [.ref h, .int (nI 1), .int (nI ci), .int (nI A9), .int (nI B9)].toArray below meth c H [] 0 0 (MQ below (gQp (some (.int (oI (fstN (wM (gsP1 st) ci A9 B9 (gsm st)) (gsn st)))))) [.ref h, .int (nI 1), .int (nI ci), .int (nI A9), .int (nI B9)].toArray s 0 0 (fun _ => False)) (F0 m 3 ls []) := by
    intro n3
    induction n3 with
    | zero => intro z hn3 hz h1; exact absurd hn3 (by omega)
    | succ n3 ih3 =>
      intro z hn3 hz h1 ls hl
      refine lv_iload hx hb dX5_worseBy_3 (lv_at hl 5 rfl) ?_
      refine lv_aload_n hx hb dX5_worseBy_5 rfl (lv_at hl 0 rfl) ?_
      refine g_get hC hP hm.1 rfl inX5 0 (by decide) q3_6 hm.2.1.1 dX5_worseBy_6 ?_
      refine lv_iload_n hx hb dX5_worseBy_9 rfl (lv_at hl 1 rfl) ?_
      refine g_iald hC hP hm.2.1.2 (vp_in_nI (by omega) (by decide)) dX5_worseBy_10 ?_
      refine g_topi (y := nI (gsn st)) hs0.2.2.2.1 ?_
      refine lv_icmp_ge (tgt := 109) hx hb dX5_worseBy_11 (by decide) (fun c11 => ?_) (fun c11 => ?_)
      · have c11 := (nI_leI (by omega) (by omega)).mp c11
        refine lv_bipush (v := (-9)) hx hb dX5_worseBy_109 (by decide) ?_
        refine g_reti hC hs ?_ dX5_worseBy_111
        rw [fstN_none (fun j hj => h1 j (by omega))]; rfl
      · have c11 := mt (nI_leI (by omega) (by omega)).mpr c11
        refine lv_iload_n hx hb dX5_worseBy_14 rfl (lv_at hl 3 rfl) ?_
        refine lv_iload hx hb dX5_worseBy_15 (lv_at hl 5 rfl) ?_
        refine lv_ishr hx hb dX5_worseBy_17 ?_
        refine lv_iconst (v := nI 1) hx hb dX5_worseBy_18 (by decide) ?_
        refine lv_iand hx hb dX5_worseBy_19 ?_
        refine g_topi (y := nI (if A9.testBit z then 1 else 0)) (g_bit hA9 (by omega)) ?_
        refine lv_iconst (v := nI 1) hx hb dX5_worseBy_20 (by decide) ?_
        refine lv_icmp_ne (tgt := 28) hx hb dX5_worseBy_21 (by decide) (fun c21 => ?_) (fun c21 => ?_)
        · have c21 : A9.testBit z = false := by by_cases h : A9.testBit z = true <;> simp_all
          refine lv_iconst (v := nI 0) hx hb dX5_worseBy_28 (by decide) ?_
          refine lv_istore (lv' := [(6, .int (nI 0)), (0, .ref h), (1, .int (nI 1)), (2, .int (nI ci)), (3, .int (nI A9)), (4, .int (nI B9)), (5, .int (nI z))]) hx hb dX5_worseBy_29 hl (by decide) rfl (fun ls hl => ?_)
          refine lv_iconst (v := nI 0) hx hb dX5_worseBy_31 (by decide) ?_
          refine lv_istore (lv' := [(7, .int (nI 0)), (6, .int (nI 0)), (0, .ref h), (1, .int (nI 1)), (2, .int (nI ci)), (3, .int (nI A9)), (4, .int (nI B9)), (5, .int (nI z))]) hx hb dX5_worseBy_32 hl (by decide) rfl (fun ls hl => ?_)
          have L34 : ∀ (n34 : Nat) (y : Nat) (ok : Bool), 5 ≤ n34 + y → (y ≤ gsm st) → (ok = (A9.testBit z && alM (gsP1 st) ci B9 z y)) → ∀ ls : Array Slot, lv_has ls 8 [(0, .ref h), (1, .int (nI 1)), (2, .int (nI ci)), (3, .int (nI A9)), (4, .int (nI B9)), (5, .int (nI z)), (6, .int (gb ok)), (7, .int (nI y))] → W p l e ({ frames := 1, cells := 0, slots := 0, locals := 23 } : Room) s m [.ref h, .int (nI 1), .int (nI ci), .int (nI A9), .int (nI B9)].toArray below meth c H [] 0 0 (MQ below (gQp (some (.int (oI (fstN (wM (gsP1 st) ci A9 B9 (gsm st)) (gsn st)))))) [.ref h, .int (nI 1), .int (nI ci), .int (nI A9), .int (nI B9)].toArray s 0 0 (fun _ => False)) (F0 m 34 ls []) := by
            intro n34
            induction n34 with
            | zero => intro y ok hn34 hy h2; exact absurd hn34 (by omega)
            | succ n34 ih34 =>
              intro y ok hn34 hy h2 ls hl
              refine lv_iload hx hb dX5_worseBy_34 (lv_at hl 7 rfl) ?_
              refine lv_aload_n hx hb dX5_worseBy_36 rfl (lv_at hl 0 rfl) ?_
              refine g_get hC hP hm.1 rfl inX5 0 (by decide) q3_6 hm.2.1.1 dX5_worseBy_37 ?_
              refine lv_iconst (v := nI 1) hx hb dX5_worseBy_40 (by decide) ?_
              refine lv_iload_n hx hb dX5_worseBy_41 rfl (lv_at hl 1 rfl) ?_
              refine lv_isub hx hb dX5_worseBy_42 ?_
              refine g_topi (y := nI 0) (by decide) ?_
              refine g_iald hC hP hm.2.1.2 (vp_in_nI (by omega) (by decide)) dX5_worseBy_43 ?_
              refine g_topi (y := nI (gsm st)) hs0.2.2.1 ?_
              refine lv_icmp_ge (tgt := 95) hx hb dX5_worseBy_44 (by decide) (fun c44 => ?_) (fun c44 => ?_)
              · have c44 := (nI_leI (by omega) (by omega)).mp c44
                refine lv_iload hx hb dX5_worseBy_95 (lv_at hl 6 rfl) ?_
                refine lv_if_eq (tgt := 103) hx hb dX5_worseBy_97 (by decide) (fun c97 => ?_) (fun c97 => ?_)
                · have c97 := gb_f c97
                  refine lv_iinc (v := nI (z + 1)) (lv' := [(5, .int (nI (z + 1))), (0, .ref h), (1, .int (nI 1)), (2, .int (nI ci)), (3, .int (nI A9)), (4, .int (nI B9)), (6, .int (gb ok)), (7, .int (nI y))]) hx hb dX5_worseBy_103 hl (k := 5) rfl (nI_inc _) (by decide) rfl (fun ls hl => ?_)
                  refine lv_goto (tgt := 3) hx hb dX5_worseBy_106 (by decide) ?_
                  exact ih3 (z + 1) (by omega) (by omega) (fun j hj => by rcases Nat.lt_succ_iff_lt_or_eq.mp hj with h | rfl; (exact h1 j h); (unfold wM; rw [show gsm st = y from by omega, ← h2]; exact c97)) ls (lv_sub hl [1, 2, 3, 4, 5, 0] rfl)
                · have c97 := gb_t c97
                  refine lv_iload hx hb dX5_worseBy_100 (lv_at hl 5 rfl) ?_
                  refine g_reti hC hs ?_ dX5_worseBy_102
                  rw [fstN_some (i := z) (by omega) (by unfold wM; rw [show gsm st = y from by omega, ← h2]; exact c97) h1]; rfl
              · have c44 := mt (nI_leI (by omega) (by omega)).mpr c44
                refine lv_iload hx hb dX5_worseBy_47 (lv_at hl 6 rfl) ?_
                refine lv_if_eq (tgt := 86) hx hb dX5_worseBy_49 (by decide) (fun c49 => ?_) (fun c49 => ?_)
                · have c49 := gb_f c49
                  refine lv_iconst (v := nI 0) hx hb dX5_worseBy_86 (by decide) ?_
                  refine lv_istore (lv' := [(6, .int (nI 0)), (0, .ref h), (1, .int (nI 1)), (2, .int (nI ci)), (3, .int (nI A9)), (4, .int (nI B9)), (5, .int (nI z)), (7, .int (nI y))]) hx hb dX5_worseBy_87 hl (by decide) rfl (fun ls hl => ?_)
                  refine lv_iinc (v := nI (y + 1)) (lv' := [(7, .int (nI (y + 1))), (6, .int (nI 0)), (0, .ref h), (1, .int (nI 1)), (2, .int (nI ci)), (3, .int (nI A9)), (4, .int (nI B9)), (5, .int (nI z))]) hx hb dX5_worseBy_89 hl (k := 7) rfl (nI_inc _) (by decide) rfl (fun ls hl => ?_)
                  refine lv_goto (tgt := 34) hx hb dX5_worseBy_92 (by decide) ?_
                  exact ih34 (y + 1) false (by omega) (by omega) (by show _ = (A9.testBit z && (alM (gsP1 st) ci B9 z y && (!B9.testBit y || decide (gsP1 st (ci * 4 + y) < gsP1 st (z * 4 + y))))); rw [← Bool.and_assoc, ← h2]; first | (rw [c49]; rfl) | (rw [c49, c59]; rfl) | (rw [c49, c59, decide_eq_true (Int32.not_le.mp c79)]; rfl) | (rw [c49, c59, decide_eq_false (Int32.not_lt.mpr c79)]; rfl)) ls (lv_sub hl [2, 3, 4, 5, 6, 7, 1, 0] rfl)
                · have c49 := gb_t c49
                  refine lv_iload hx hb dX5_worseBy_52 (lv_at hl 4 rfl) ?_
                  refine lv_iload hx hb dX5_worseBy_54 (lv_at hl 7 rfl) ?_
                  refine lv_ishr hx hb dX5_worseBy_56 ?_
                  refine lv_iconst (v := nI 1) hx hb dX5_worseBy_57 (by decide) ?_
                  refine lv_iand hx hb dX5_worseBy_58 ?_
                  refine g_topi (y := gb (B9.testBit y)) ((g_bit hB9 (by omega)).trans (by cases B9.testBit y <;> rfl)) ?_
                  refine lv_if_eq (tgt := 82) hx hb dX5_worseBy_59 (by decide) (fun c59 => ?_) (fun c59 => ?_)
                  · have c59 := gb_f c59
                    refine lv_iconst (v := nI 1) hx hb dX5_worseBy_82 (by decide) ?_
                    refine lv_goto (tgt := 87) hx hb dX5_worseBy_83 (by decide) ?_
                    refine lv_istore (lv' := [(6, .int (nI 1)), (0, .ref h), (1, .int (nI 1)), (2, .int (nI ci)), (3, .int (nI A9)), (4, .int (nI B9)), (5, .int (nI z)), (7, .int (nI y))]) hx hb dX5_worseBy_87 hl (by decide) rfl (fun ls hl => ?_)
                    refine lv_iinc (v := nI (y + 1)) (lv' := [(7, .int (nI (y + 1))), (6, .int (nI 1)), (0, .ref h), (1, .int (nI 1)), (2, .int (nI ci)), (3, .int (nI A9)), (4, .int (nI B9)), (5, .int (nI z))]) hx hb dX5_worseBy_89 hl (k := 7) rfl (nI_inc _) (by decide) rfl (fun ls hl => ?_)
                    refine lv_goto (tgt := 34) hx hb dX5_worseBy_92 (by decide) ?_
                    exact ih34 (y + 1) true (by omega) (by omega) (by show _ = (A9.testBit z && (alM (gsP1 st) ci B9 z y && (!B9.testBit y || decide (gsP1 st (ci * 4 + y) < gsP1 st (z * 4 + y))))); rw [← Bool.and_assoc, ← h2]; first | (rw [c49]; rfl) | (rw [c49, c59]; rfl) | (rw [c49, c59, decide_eq_true (Int32.not_le.mp c79)]; rfl) | (rw [c49, c59, decide_eq_false (Int32.not_lt.mpr c79)]; rfl)) ls (lv_sub hl [2, 3, 4, 5, 6, 7, 1, 0] rfl)
                  · have c59 := gb_t c59
                    refine lv_aload_n hx hb dX5_worseBy_62 rfl (lv_at hl 0 rfl) ?_
                    refine lv_iload_n hx hb dX5_worseBy_63 rfl (lv_at hl 1 rfl) ?_
                    refine lv_iload hx hb dX5_worseBy_64 (lv_at hl 5 rfl) ?_
                    refine lv_iload hx hb dX5_worseBy_66 (lv_at hl 7 rfl) ?_
                    refine g_cp (g_rV (As := [.int (nI 1), .int (nI z), .int (nI y)]) hC hP (c_X5_get l hP (h := h) (w := 1) (i := z) (k := y) (by first | assumption | omega) (by first | assumption | omega) (by first | assumption | omega) (by first | assumption | omega) (by first | assumption | omega)) hm.1 rfl ⟨q3_139, q3_136, q3_138, qs_34, q1_6⟩ dd_X5_get ⟨Nat.le_of_ble_eq_true rfl, Nat.le_of_ble_eq_true rfl, rfl, rfl⟩ hl.1 rfl (Nat.le_of_ble_eq_true rfl) dX5_worseBy_68 ⟨Nat.le_of_ble_eq_true rfl, Nat.le_of_ble_eq_true rfl⟩) ?_
                    refine W.eq (g2 := F0 m 71 ls [.int (gsP1 st (z * 4 + y))]) rfl ?_
                    refine lv_aload_n hx hb dX5_worseBy_71 rfl (lv_at hl 0 rfl) ?_
                    refine lv_iload_n hx hb dX5_worseBy_72 rfl (lv_at hl 1 rfl) ?_
                    refine lv_iload_n hx hb dX5_worseBy_73 rfl (lv_at hl 2 rfl) ?_
                    refine lv_iload hx hb dX5_worseBy_74 (lv_at hl 7 rfl) ?_
                    refine g_cp (g_rV (As := [.int (nI 1), .int (nI ci), .int (nI y)]) hC hP (c_X5_get l hP (h := h) (w := 1) (i := ci) (k := y) (by first | assumption | omega) (by first | assumption | omega) (by first | assumption | omega) (by first | assumption | omega) (by first | assumption | omega)) hm.1 rfl ⟨q3_139, q3_136, q3_138, qs_34, q1_6⟩ dd_X5_get ⟨Nat.le_of_ble_eq_true rfl, Nat.le_of_ble_eq_true rfl, rfl, rfl⟩ hl.1 rfl (Nat.le_of_ble_eq_true rfl) dX5_worseBy_76 ⟨Nat.le_of_ble_eq_true rfl, Nat.le_of_ble_eq_true rfl⟩) ?_
                    refine W.eq (g2 := F0 m 79 ls [.int (gsP1 st (ci * 4 + y)), .int (gsP1 st (z * 4 + y))]) rfl ?_
                    refine lv_icmp_le (tgt := 86) hx hb dX5_worseBy_79 (by decide) (fun c79 => ?_) (fun c79 => ?_)
                    · refine lv_iconst (v := nI 0) hx hb dX5_worseBy_86 (by decide) ?_
                      refine lv_istore (lv' := [(6, .int (nI 0)), (0, .ref h), (1, .int (nI 1)), (2, .int (nI ci)), (3, .int (nI A9)), (4, .int (nI B9)), (5, .int (nI z)), (7, .int (nI y))]) hx hb dX5_worseBy_87 hl (by decide) rfl (fun ls hl => ?_)
                      refine lv_iinc (v := nI (y + 1)) (lv' := [(7, .int (nI (y + 1))), (6, .int (nI 0)), (0, .ref h), (1, .int (nI 1)), (2, .int (nI ci)), (3, .int (nI A9)), (4, .int (nI B9)), (5, .int (nI z))]) hx hb dX5_worseBy_89 hl (k := 7) rfl (nI_inc _) (by decide) rfl (fun ls hl => ?_)
                      refine lv_goto (tgt := 34) hx hb dX5_worseBy_92 (by decide) ?_
                      exact ih34 (y + 1) false (by omega) (by omega) (by show _ = (A9.testBit z && (alM (gsP1 st) ci B9 z y && (!B9.testBit y || decide (gsP1 st (ci * 4 + y) < gsP1 st (z * 4 + y))))); rw [← Bool.and_assoc, ← h2]; first | (rw [c49]; rfl) | (rw [c49, c59]; rfl) | (rw [c49, c59, decide_eq_true (Int32.not_le.mp c79)]; rfl) | (rw [c49, c59, decide_eq_false (Int32.not_lt.mpr c79)]; rfl)) ls (lv_sub hl [2, 3, 4, 5, 6, 7, 1, 0] rfl)
                    · refine lv_iconst (v := nI 1) hx hb dX5_worseBy_82 (by decide) ?_
                      refine lv_goto (tgt := 87) hx hb dX5_worseBy_83 (by decide) ?_
                      refine lv_istore (lv' := [(6, .int (nI 1)), (0, .ref h), (1, .int (nI 1)), (2, .int (nI ci)), (3, .int (nI A9)), (4, .int (nI B9)), (5, .int (nI z)), (7, .int (nI y))]) hx hb dX5_worseBy_87 hl (by decide) rfl (fun ls hl => ?_)
                      refine lv_iinc (v := nI (y + 1)) (lv' := [(7, .int (nI (y + 1))), (6, .int (nI 1)), (0, .ref h), (1, .int (nI 1)), (2, .int (nI ci)), (3, .int (nI A9)), (4, .int (nI B9)), (5, .int (nI z))]) hx hb dX5_worseBy_89 hl (k := 7) rfl (nI_inc _) (by decide) rfl (fun ls hl => ?_)
                      refine lv_goto (tgt := 34) hx hb dX5_worseBy_92 (by decide) ?_
                      exact ih34 (y + 1) true (by omega) (by omega) (by show _ = (A9.testBit z && (alM (gsP1 st) ci B9 z y && (!B9.testBit y || decide (gsP1 st (ci * 4 + y) < gsP1 st (z * 4 + y))))); rw [← Bool.and_assoc, ← h2]; first | (rw [c49]; rfl) | (rw [c49, c59]; rfl) | (rw [c49, c59, decide_eq_true (Int32.not_le.mp c79)]; rfl) | (rw [c49, c59, decide_eq_false (Int32.not_lt.mpr c79)]; rfl)) ls (lv_sub hl [2, 3, 4, 5, 6, 7, 1, 0] rfl)
          exact L34 5 0 false (by omega) (by omega) (by rw [c21]; rfl) ls (lv_sub hl [2, 3, 4, 5, 6, 7, 1, 0] rfl)
        · have c21 : A9.testBit z = true := by by_cases h : A9.testBit z = true <;> simp_all [nI]
          refine lv_iconst (v := nI 1) hx hb dX5_worseBy_24 (by decide) ?_
          refine lv_goto (tgt := 29) hx hb dX5_worseBy_25 (by decide) ?_
          refine lv_istore (lv' := [(6, .int (nI 1)), (0, .ref h), (1, .int (nI 1)), (2, .int (nI ci)), (3, .int (nI A9)), (4, .int (nI B9)), (5, .int (nI z))]) hx hb dX5_worseBy_29 hl (by decide) rfl (fun ls hl => ?_)
          refine lv_iconst (v := nI 0) hx hb dX5_worseBy_31 (by decide) ?_
          refine lv_istore (lv' := [(7, .int (nI 0)), (6, .int (nI 1)), (0, .ref h), (1, .int (nI 1)), (2, .int (nI ci)), (3, .int (nI A9)), (4, .int (nI B9)), (5, .int (nI z))]) hx hb dX5_worseBy_32 hl (by decide) rfl (fun ls hl => ?_)
          have L34 : ∀ (n34 : Nat) (y : Nat) (ok : Bool), 5 ≤ n34 + y → (y ≤ gsm st) → (ok = (A9.testBit z && alM (gsP1 st) ci B9 z y)) → ∀ ls : Array Slot, lv_has ls 8 [(0, .ref h), (1, .int (nI 1)), (2, .int (nI ci)), (3, .int (nI A9)), (4, .int (nI B9)), (5, .int (nI z)), (6, .int (gb ok)), (7, .int (nI y))] → W p l e ({ frames := 1, cells := 0, slots := 0, locals := 23 } : Room) s m [.ref h, .int (nI 1), .int (nI ci), .int (nI A9), .int (nI B9)].toArray below meth c H [] 0 0 (MQ below (gQp (some (.int (oI (fstN (wM (gsP1 st) ci A9 B9 (gsm st)) (gsn st)))))) [.ref h, .int (nI 1), .int (nI ci), .int (nI A9), .int (nI B9)].toArray s 0 0 (fun _ => False)) (F0 m 34 ls []) := by
            intro n34
            induction n34 with
            | zero => intro y ok hn34 hy h2; exact absurd hn34 (by omega)
            | succ n34 ih34 =>
              intro y ok hn34 hy h2 ls hl
              refine lv_iload hx hb dX5_worseBy_34 (lv_at hl 7 rfl) ?_
              refine lv_aload_n hx hb dX5_worseBy_36 rfl (lv_at hl 0 rfl) ?_
              refine g_get hC hP hm.1 rfl inX5 0 (by decide) q3_6 hm.2.1.1 dX5_worseBy_37 ?_
              refine lv_iconst (v := nI 1) hx hb dX5_worseBy_40 (by decide) ?_
              refine lv_iload_n hx hb dX5_worseBy_41 rfl (lv_at hl 1 rfl) ?_
              refine lv_isub hx hb dX5_worseBy_42 ?_
              refine g_topi (y := nI 0) (by decide) ?_
              refine g_iald hC hP hm.2.1.2 (vp_in_nI (by omega) (by decide)) dX5_worseBy_43 ?_
              refine g_topi (y := nI (gsm st)) hs0.2.2.1 ?_
              refine lv_icmp_ge (tgt := 95) hx hb dX5_worseBy_44 (by decide) (fun c44 => ?_) (fun c44 => ?_)
              · have c44 := (nI_leI (by omega) (by omega)).mp c44
                refine lv_iload hx hb dX5_worseBy_95 (lv_at hl 6 rfl) ?_
                refine lv_if_eq (tgt := 103) hx hb dX5_worseBy_97 (by decide) (fun c97 => ?_) (fun c97 => ?_)
                · have c97 := gb_f c97
                  refine lv_iinc (v := nI (z + 1)) (lv' := [(5, .int (nI (z + 1))), (0, .ref h), (1, .int (nI 1)), (2, .int (nI ci)), (3, .int (nI A9)), (4, .int (nI B9)), (6, .int (gb ok)), (7, .int (nI y))]) hx hb dX5_worseBy_103 hl (k := 5) rfl (nI_inc _) (by decide) rfl (fun ls hl => ?_)
                  refine lv_goto (tgt := 3) hx hb dX5_worseBy_106 (by decide) ?_
                  exact ih3 (z + 1) (by omega) (by omega) (fun j hj => by rcases Nat.lt_succ_iff_lt_or_eq.mp hj with h | rfl; (exact h1 j h); (unfold wM; rw [show gsm st = y from by omega, ← h2]; exact c97)) ls (lv_sub hl [1, 2, 3, 4, 5, 0] rfl)
                · have c97 := gb_t c97
                  refine lv_iload hx hb dX5_worseBy_100 (lv_at hl 5 rfl) ?_
                  refine g_reti hC hs ?_ dX5_worseBy_102
                  rw [fstN_some (i := z) (by omega) (by unfold wM; rw [show gsm st = y from by omega, ← h2]; exact c97) h1]; rfl
              · have c44 := mt (nI_leI (by omega) (by omega)).mpr c44
                refine lv_iload hx hb dX5_worseBy_47 (lv_at hl 6 rfl) ?_
                refine lv_if_eq (tgt := 86) hx hb dX5_worseBy_49 (by decide) (fun c49 => ?_) (fun c49 => ?_)
                · have c49 := gb_f c49
                  refine lv_iconst (v := nI 0) hx hb dX5_worseBy_86 (by decide) ?_
                  refine lv_istore (lv' := [(6, .int (nI 0)), (0, .ref h), (1, .int (nI 1)), (2, .int (nI ci)), (3, .int (nI A9)), (4, .int (nI B9)), (5, .int (nI z)), (7, .int (nI y))]) hx hb dX5_worseBy_87 hl (by decide) rfl (fun ls hl => ?_)
                  refine lv_iinc (v := nI (y + 1)) (lv' := [(7, .int (nI (y + 1))), (6, .int (nI 0)), (0, .ref h), (1, .int (nI 1)), (2, .int (nI ci)), (3, .int (nI A9)), (4, .int (nI B9)), (5, .int (nI z))]) hx hb dX5_worseBy_89 hl (k := 7) rfl (nI_inc _) (by decide) rfl (fun ls hl => ?_)
                  refine lv_goto (tgt := 34) hx hb dX5_worseBy_92 (by decide) ?_
                  exact ih34 (y + 1) false (by omega) (by omega) (by show _ = (A9.testBit z && (alM (gsP1 st) ci B9 z y && (!B9.testBit y || decide (gsP1 st (ci * 4 + y) < gsP1 st (z * 4 + y))))); rw [← Bool.and_assoc, ← h2]; first | (rw [c49]; rfl) | (rw [c49, c59]; rfl) | (rw [c49, c59, decide_eq_true (Int32.not_le.mp c79)]; rfl) | (rw [c49, c59, decide_eq_false (Int32.not_lt.mpr c79)]; rfl)) ls (lv_sub hl [2, 3, 4, 5, 6, 7, 1, 0] rfl)
                · have c49 := gb_t c49
                  refine lv_iload hx hb dX5_worseBy_52 (lv_at hl 4 rfl) ?_
                  refine lv_iload hx hb dX5_worseBy_54 (lv_at hl 7 rfl) ?_
                  refine lv_ishr hx hb dX5_worseBy_56 ?_
                  refine lv_iconst (v := nI 1) hx hb dX5_worseBy_57 (by decide) ?_
                  refine lv_iand hx hb dX5_worseBy_58 ?_
                  refine g_topi (y := gb (B9.testBit y)) ((g_bit hB9 (by omega)).trans (by cases B9.testBit y <;> rfl)) ?_
                  refine lv_if_eq (tgt := 82) hx hb dX5_worseBy_59 (by decide) (fun c59 => ?_) (fun c59 => ?_)
                  · have c59 := gb_f c59
                    refine lv_iconst (v := nI 1) hx hb dX5_worseBy_82 (by decide) ?_
                    refine lv_goto (tgt := 87) hx hb dX5_worseBy_83 (by decide) ?_
                    refine lv_istore (lv' := [(6, .int (nI 1)), (0, .ref h), (1, .int (nI 1)), (2, .int (nI ci)), (3, .int (nI A9)), (4, .int (nI B9)), (5, .int (nI z)), (7, .int (nI y))]) hx hb dX5_worseBy_87 hl (by decide) rfl (fun ls hl => ?_)
                    refine lv_iinc (v := nI (y + 1)) (lv' := [(7, .int (nI (y + 1))), (6, .int (nI 1)), (0, .ref h), (1, .int (nI 1)), (2, .int (nI ci)), (3, .int (nI A9)), (4, .int (nI B9)), (5, .int (nI z))]) hx hb dX5_worseBy_89 hl (k := 7) rfl (nI_inc _) (by decide) rfl (fun ls hl => ?_)
                    refine lv_goto (tgt := 34) hx hb dX5_worseBy_92 (by decide) ?_
                    exact ih34 (y + 1) true (by omega) (by omega) (by show _ = (A9.testBit z && (alM (gsP1 st) ci B9 z y && (!B9.testBit y || decide (gsP1 st (ci * 4 + y) < gsP1 st (z * 4 + y))))); rw [← Bool.and_assoc, ← h2]; first | (rw [c49]; rfl) | (rw [c49, c59]; rfl) | (rw [c49, c59, decide_eq_true (Int32.not_le.mp c79)]; rfl) | (rw [c49, c59, decide_eq_false (Int32.not_lt.mpr c79)]; rfl)) ls (lv_sub hl [2, 3, 4, 5, 6, 7, 1, 0] rfl)
                  · have c59 := gb_t c59
                    refine lv_aload_n hx hb dX5_worseBy_62 rfl (lv_at hl 0 rfl) ?_
                    refine lv_iload_n hx hb dX5_worseBy_63 rfl (lv_at hl 1 rfl) ?_
                    refine lv_iload hx hb dX5_worseBy_64 (lv_at hl 5 rfl) ?_
                    refine lv_iload hx hb dX5_worseBy_66 (lv_at hl 7 rfl) ?_
                    refine g_cp (g_rV (As := [.int (nI 1), .int (nI z), .int (nI y)]) hC hP (c_X5_get l hP (h := h) (w := 1) (i := z) (k := y) (by first | assumption | omega) (by first | assumption | omega) (by first | assumption | omega) (by first | assumption | omega) (by first | assumption | omega)) hm.1 rfl ⟨q3_139, q3_136, q3_138, qs_34, q1_6⟩ dd_X5_get ⟨Nat.le_of_ble_eq_true rfl, Nat.le_of_ble_eq_true rfl, rfl, rfl⟩ hl.1 rfl (Nat.le_of_ble_eq_true rfl) dX5_worseBy_68 ⟨Nat.le_of_ble_eq_true rfl, Nat.le_of_ble_eq_true rfl⟩) ?_
                    refine W.eq (g2 := F0 m 71 ls [.int (gsP1 st (z * 4 + y))]) rfl ?_
                    refine lv_aload_n hx hb dX5_worseBy_71 rfl (lv_at hl 0 rfl) ?_
                    refine lv_iload_n hx hb dX5_worseBy_72 rfl (lv_at hl 1 rfl) ?_
                    refine lv_iload_n hx hb dX5_worseBy_73 rfl (lv_at hl 2 rfl) ?_
                    refine lv_iload hx hb dX5_worseBy_74 (lv_at hl 7 rfl) ?_
                    refine g_cp (g_rV (As := [.int (nI 1), .int (nI ci), .int (nI y)]) hC hP (c_X5_get l hP (h := h) (w := 1) (i := ci) (k := y) (by first | assumption | omega) (by first | assumption | omega) (by first | assumption | omega) (by first | assumption | omega) (by first | assumption | omega)) hm.1 rfl ⟨q3_139, q3_136, q3_138, qs_34, q1_6⟩ dd_X5_get ⟨Nat.le_of_ble_eq_true rfl, Nat.le_of_ble_eq_true rfl, rfl, rfl⟩ hl.1 rfl (Nat.le_of_ble_eq_true rfl) dX5_worseBy_76 ⟨Nat.le_of_ble_eq_true rfl, Nat.le_of_ble_eq_true rfl⟩) ?_
                    refine W.eq (g2 := F0 m 79 ls [.int (gsP1 st (ci * 4 + y)), .int (gsP1 st (z * 4 + y))]) rfl ?_
                    refine lv_icmp_le (tgt := 86) hx hb dX5_worseBy_79 (by decide) (fun c79 => ?_) (fun c79 => ?_)
                    · refine lv_iconst (v := nI 0) hx hb dX5_worseBy_86 (by decide) ?_
                      refine lv_istore (lv' := [(6, .int (nI 0)), (0, .ref h), (1, .int (nI 1)), (2, .int (nI ci)), (3, .int (nI A9)), (4, .int (nI B9)), (5, .int (nI z)), (7, .int (nI y))]) hx hb dX5_worseBy_87 hl (by decide) rfl (fun ls hl => ?_)
                      refine lv_iinc (v := nI (y + 1)) (lv' := [(7, .int (nI (y + 1))), (6, .int (nI 0)), (0, .ref h), (1, .int (nI 1)), (2, .int (nI ci)), (3, .int (nI A9)), (4, .int (nI B9)), (5, .int (nI z))]) hx hb dX5_worseBy_89 hl (k := 7) rfl (nI_inc _) (by decide) rfl (fun ls hl => ?_)
                      refine lv_goto (tgt := 34) hx hb dX5_worseBy_92 (by decide) ?_
                      exact ih34 (y + 1) false (by omega) (by omega) (by show _ = (A9.testBit z && (alM (gsP1 st) ci B9 z y && (!B9.testBit y || decide (gsP1 st (ci * 4 + y) < gsP1 st (z * 4 + y))))); rw [← Bool.and_assoc, ← h2]; first | (rw [c49]; rfl) | (rw [c49, c59]; rfl) | (rw [c49, c59, decide_eq_true (Int32.not_le.mp c79)]; rfl) | (rw [c49, c59, decide_eq_false (Int32.not_lt.mpr c79)]; rfl)) ls (lv_sub hl [2, 3, 4, 5, 6, 7, 1, 0] rfl)
                    · refine lv_iconst (v := nI 1) hx hb dX5_worseBy_82 (by decide) ?_
                      refine lv_goto (tgt := 87) hx hb dX5_worseBy_83 (by decide) ?_
                      refine lv_istore (lv' := [(6, .int (nI 1)), (0, .ref h), (1, .int (nI 1)), (2, .int (nI ci)), (3, .int (nI A9)), (4, .int (nI B9)), (5, .int (nI z)), (7, .int (nI y))]) hx hb dX5_worseBy_87 hl (by decide) rfl (fun ls hl => ?_)
                      refine lv_iinc (v := nI (y + 1)) (lv' := [(7, .int (nI (y + 1))), (6, .int (nI 1)), (0, .ref h), (1, .int (nI 1)), (2, .int (nI ci)), (3, .int (nI A9)), (4, .int (nI B9)), (5, .int (nI z))]) hx hb dX5_worseBy_89 hl (k := 7) rfl (nI_inc _) (by decide) rfl (fun ls hl => ?_)
                      refine lv_goto (tgt := 34) hx hb dX5_worseBy_92 (by decide) ?_
                      exact ih34 (y + 1) true (by omega) (by omega) (by show _ = (A9.testBit z && (alM (gsP1 st) ci B9 z y && (!B9.testBit y || decide (gsP1 st (ci * 4 + y) < gsP1 st (z * 4 + y))))); rw [← Bool.and_assoc, ← h2]; first | (rw [c49]; rfl) | (rw [c49, c59]; rfl) | (rw [c49, c59, decide_eq_true (Int32.not_le.mp c79)]; rfl) | (rw [c49, c59, decide_eq_false (Int32.not_lt.mpr c79)]; rfl)) ls (lv_sub hl [2, 3, 4, 5, 6, 7, 1, 0] rfl)
          exact L34 5 0 true (by omega) (by omega) (by rw [c21]; rfl) ls (lv_sub hl [2, 3, 4, 5, 6, 7, 1, 0] rfl)
  exact L3 5 0 (by omega) (by omega) (fun j hj => absurd hj (Nat.not_lt_zero j)) ls (lv_sub hl [1, 2, 3, 4, 5, 0] rfl)
