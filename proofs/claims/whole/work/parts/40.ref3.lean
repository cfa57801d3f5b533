/-! ===== the reference: sure, hold ===== -/
/-- pays lie from -20 to 20 -/
def bdP (P : Nat → Int32) : Prop := ∀ j, j < 16 → ¬ P j < -20 ∧ ¬ nI 20 < P j
def mnM (f : Nat → Int32) : Nat → Int32
  | 0 => nI 21
  | k + 1 => if f k < mnM f k then f k else mnM f k
def mxM (f : Nat → Int32) : Nat → Int32
  | 0 => -21
  | k + 1 => if mxM f k < f k then f k else mxM f k
theorem mnM_F {f : Nat → Int32} (h : f 0 < nI 21) : ∀ k, mnM f (k + 1) = mnF f k
  | 0 => if_pos h
  | k + 1 => by
    show (if f (k + 1) < mnM f (k + 1) then _ else mnM f (k + 1)) = _
    rw [mnM_F h k]
    rfl
theorem mxM_F {f : Nat → Int32} (h : -21 < f 0) : ∀ k, mxM f (k + 1) = mxF f k
  | 0 => if_pos h
  | k + 1 => by
    show (if mxM f (k + 1) < f (k + 1) then _ else mxM f (k + 1)) = _
    rw [mxM_F h k]
    rfl
theorem mnF_ge {f : Nat → Int32} {x : Int32} : ∀ k, (∀ j, j ≤ k → x < f j) → x < mnF f k
  | 0, h => h 0 (Nat.le_refl 0)
  | k + 1, h => by
    unfold mnF
    split
    · exact h _ (Nat.le_refl _)
    · exact mnF_ge k (fun j hj => h j (by omega))
theorem mxF_le {f : Nat → Int32} {x : Int32} : ∀ k, (∀ j, j ≤ k → f j < x) → mxF f k < x
  | 0, h => h 0 (Nat.le_refl 0)
  | k + 1, h => by
    unfold mxF
    split
    · exact h _ (Nat.le_refl _)
    · exact mxF_le k (fun j hj => h j (by omega))
theorem bd_lt {x : Int32} (h : ¬ x < -20 ∧ ¬ nI 20 < x) : -21 < x ∧ x < nI 21 := by
  have e1 : (-20 : Int32).toInt = -20 := by decide
  have e2 : (nI 20).toInt = 20 := by decide
  have e3 : (-21 : Int32).toInt = -21 := by decide
  have e4 : (nI 21).toInt = 21 := by decide
  simp only [Int32.lt_iff_toInt_lt, e1, e2, e3, e4] at *
  omega
theorem mnM_congr {f f' : Nat → Int32} : ∀ k, (∀ j, j < k → f j = f' j) → mnM f k = mnM f' k
  | 0, _ => rfl
  | k + 1, h => by
    unfold mnM
    rw [mnM_congr k (fun j hj => h j (by omega)), h k (by omega)]
theorem mxM_congr {f f' : Nat → Int32} : ∀ k, (∀ j, j < k → f j = f' j) → mxM f k = mxM f' k
  | 0, _ => rfl
  | k + 1, h => by
    unfold mxM
    rw [mxM_congr k (fun j hj => h j (by omega)), h k (by omega)]
theorem sureM {P : Nat → Int32} {a b : Nat} (hb : bdP P) (ha : 1 ≤ a ∧ a ≤ 4) (hn : 1 ≤ b ∧ b ≤ 4) : mxM (fun i => mnM (fun k => P (i * 4 + k)) b) a = sureP P a b := by
  have e : ∀ i, i < 4 → mnM (fun k => P (i * 4 + k)) b = leastF P b i := fun i hi => by
    obtain ⟨b', rfl⟩ : ∃ b', b = b' + 1 := ⟨b - 1, by omega⟩
    exact mnM_F (f := fun k => P (i * 4 + k)) (bd_lt (hb (i * 4 + 0) (by omega))).2 b'
  rw [mxM_congr a (fun i hi => e i (by omega))]
  obtain ⟨a', rfl⟩ : ∃ a', a = a' + 1 := ⟨a - 1, by omega⟩
  exact mxM_F (f := leastF P b) (mnF_ge (f := fun k => P (0 * 4 + k)) (b - 1) (fun j hj => (bd_lt (hb (0 * 4 + j) (by omega))).1)) a'
theorem holdM {P : Nat → Int32} {a b : Nat} (hb : bdP P) (ha : 1 ≤ a ∧ a ≤ 4) (hn : 1 ≤ b ∧ b ≤ 4) : mnM (fun k => mxM (fun i => P (i * 4 + k)) a) b = holdP P a b := by
  have e : ∀ k, k < 4 → mxM (fun i => P (i * 4 + k)) a = mostA P a k := fun k hk => by
    obtain ⟨a', rfl⟩ : ∃ a', a = a' + 1 := ⟨a - 1, by omega⟩
    exact mxM_F (f := fun i => P (i * 4 + k)) (bd_lt (hb (0 * 4 + k) (by omega))).1 a'
  rw [mnM_congr b (fun k hk => e k (by omega))]
  obtain ⟨b', rfl⟩ : ∃ b', b = b' + 1 := ⟨b - 1, by omega⟩
  exact mnM_F (f := mostA P a) (mxF_le (f := fun i => P (i * 4 + 0)) (a - 1) (fun j hj => (bd_lt (hb (j * 4 + 0) (by omega))).2)) b'
set_option maxHeartbeats 4000000 in
set_option maxRecDepth 100000 in
theorem c_X5_sure (l : Launch) {G : gG} {T : gTy} {I : gI} {J : gJ} {Q : gR} {O : gO} {H : Heap} (hP : gP G T I J Q O H) {h : Nat} {st : GS} {q : Int32} (hm : isMo T O h) (hs0 : moS I h st) (hbd0 : bdP (gsP0 st)) (hbd1 : bdP (gsP1 st)) : Met l yX5_sure (gw yX5_sure cX5_sure 6 (some (.int))) ({ frames := 1, cells := 0, slots := 0, locals := 23 } : Room) (gPc G H [.ref h, .int q]) (gQc (gF T H) (fun x H1 => rSure st (fun x1 s1 => x = some (.int x1) ∧ moR G T h s1 H1) q)) 0 0 (gF T H) := by
  refine g_met [(0, .ref h), (1, .int q)] (by decide) rfl (by exact Nat.le_of_ble_eq_true rfl) ?_
  intro p e s m below meth c hC hs ls hl
  have hx := hC.1.1
  have hb := hC.1.2.1
  have hS : va_S (gF T H) s.heap H [] := hs ▸ va_S.rf
  have hTA : ∀ q, (T q).1 ≠ 0 → gF T H q := fun q h => Or.inl h
  have hA : ∀ q, s.heap.size ≤ q → gF T H q := fun q h => Or.inr (hs ▸ h)
  generalize hAe : gF T H = A at hS hTA hA ⊢
  have hms := hs0.1
  have hns := hs0.2.1
  refine lv_iload_n hx hb dX5_sure_0 rfl (lv_at hl 1 rfl) ?_
  refine g_cp (g_rS (As := [.int q]) hC (c_X5_isWho l (q := q)) ⟨q3_78, q3_76, q3_77, q1_6⟩ dd_X5_isWho ⟨Nat.le_of_ble_eq_true rfl, Nat.le_of_ble_eq_true rfl, rfl, rfl⟩ hl.1 rfl (Nat.le_of_ble_eq_true rfl) dX5_sure_1 ⟨Nat.le_of_ble_eq_true rfl, Nat.le_of_ble_eq_true rfl⟩) ?_
  refine W.eq (g2 := F0 m 4 ls [.int (gb (isW q))]) rfl ?_
  refine lv_if_ne (tgt := 13) hx hb dX5_sure_4 (by decide) (fun c4 => ?_) (fun c4 => ?_)
  · have c4 := gb_t c4
    rcases isW_c c4 with rfl | rfl
    · refine lv_bipush (v := (-21)) hx hb dX5_sure_13 (by decide) ?_
      refine lv_istore_n (lv' := [(2, .int (-21 : Int32)), (0, .ref h), (1, .int (nI 0))]) hx hb dX5_sure_15 rfl hl (by decide) rfl (fun ls hl => ?_)
      refine lv_iconst (v := nI 0) hx hb dX5_sure_16 (by decide) ?_
      refine lv_istore_n (lv' := [(3, .int (nI 0)), (2, .int (-21 : Int32)), (0, .ref h), (1, .int (nI 0))]) hx hb dX5_sure_17 rfl hl (by decide) rfl (fun ls hl => ?_)
      have L18 : ∀ (n18 : Nat) (z : Nat) (x : Int32), 5 ≤ n18 + z → (z ≤ gsm st) → (x = mxM (fun i => mnM (fun k => gsP0 st (i * 4 + k)) (gsn st)) z) → ∀ (Hl : Heap) (lcl : List Loc), gP G T I J Q O Hl → va_S A s.heap Hl lcl → ∀ ls : Array Slot, lv_has ls 6 [(0, .ref h), (1, .int (nI 0)), (2, .int x), (3, .int (nI z))] → W p l e ({ frames := 1, cells := 0, slots := 0, locals := 23 } : Room) s m [.ref h, .int (nI 0)].toArray below meth c Hl lcl 0 0 (MQ below (gQc A (fun x H1 => rSure st (fun x1 s1 => x = some (.int x1) ∧ moR G T h s1 H1) (nI 0))) [.ref h, .int (nI 0)].toArray s 0 0 A) (F0 m 18 ls []) := by
        intro n18
        induction n18 with
        | zero => intro z x hn18 hz h1; exact absurd hn18 (by omega)
        | succ n18 ih18 =>
          intro z x hn18 hz h1 Hl lcl hP hS ls hl
          refine lv_iload_n hx hb dX5_sure_18 rfl (lv_at hl 3 rfl) ?_
          refine lv_aload_n hx hb dX5_sure_19 rfl (lv_at hl 0 rfl) ?_
          refine g_get hC hP hm.1 rfl inX5 0 (by decide) q3_6 hm.2.1.1 dX5_sure_20 ?_
          refine lv_iload_n hx hb dX5_sure_23 rfl (lv_at hl 1 rfl) ?_
          refine g_iald hC hP hm.2.1.2 (vp_in_nI (by omega) (by decide)) dX5_sure_24 ?_
          refine g_topi (y := nI (gsm st)) hs0.2.2.1 ?_
          refine lv_icmp_ge (tgt := 101) hx hb dX5_sure_25 (by decide) (fun c25 => ?_) (fun c25 => ?_)
          · have c25 := (nI_leI (by omega) (by omega)).mp c25
            refine lv_iload_n hx hb dX5_sure_101 rfl (lv_at hl 2 rfl) ?_
            refine g_retci hC hS ?_ dX5_sure_102
            refine Or.inr (Or.inl ⟨rfl, ?_, mo_same hm hs0 hP⟩)
            rw [h1, show z = gsm st from by omega, sureM hbd0 (by omega) (by omega)]
          · have c25 := mt (nI_leI (by omega) (by omega)).mpr c25
            refine lv_bipush (v := nI 21) hx hb dX5_sure_28 (by decide) ?_
            refine lv_istore (lv' := [(4, .int (nI 21)), (0, .ref h), (1, .int (nI 0)), (2, .int x), (3, .int (nI z))]) hx hb dX5_sure_30 hl (by decide) rfl (fun ls hl => ?_)
            refine lv_iconst (v := nI 0) hx hb dX5_sure_32 (by decide) ?_
            refine lv_istore (lv' := [(5, .int (nI 0)), (4, .int (nI 21)), (0, .ref h), (1, .int (nI 0)), (2, .int x), (3, .int (nI z))]) hx hb dX5_sure_33 hl (by decide) rfl (fun ls hl => ?_)
            have L35 : ∀ (n35 : Nat) (y : Nat) (u : Int32), 5 ≤ n35 + y → (y ≤ gsn st) → (u = mnM (fun k => gsP0 st (z * 4 + k)) y) → ∀ (Hl : Heap) (lcl : List Loc), gP G T I J Q O Hl → va_S A s.heap Hl lcl → ∀ ls : Array Slot, lv_has ls 6 [(0, .ref h), (1, .int (nI 0)), (2, .int x), (3, .int (nI z)), (4, .int u), (5, .int (nI y))] → W p l e ({ frames := 1, cells := 0, slots := 0, locals := 23 } : Room) s m [.ref h, .int (nI 0)].toArray below meth c Hl lcl 0 0 (MQ below (gQc A (fun x H1 => rSure st (fun x1 s1 => x = some (.int x1) ∧ moR G T h s1 H1) (nI 0))) [.ref h, .int (nI 0)].toArray s 0 0 A) (F0 m 35 ls []) := by
              intro n35
              induction n35 with
              | zero => intro y u hn35 hy h2; exact absurd hn35 (by omega)
              | succ n35 ih35 =>
                intro y u hn35 hy h2 Hl lcl hP hS ls hl
                refine lv_iload hx hb dX5_sure_35 (lv_at hl 5 rfl) ?_
                refine lv_aload_n hx hb dX5_sure_37 rfl (lv_at hl 0 rfl) ?_
                refine g_get hC hP hm.1 rfl inX5 0 (by decide) q3_6 hm.2.1.1 dX5_sure_38 ?_
                refine lv_iconst (v := nI 1) hx hb dX5_sure_41 (by decide) ?_
                refine lv_iload_n hx hb dX5_sure_42 rfl (lv_at hl 1 rfl) ?_
                refine lv_isub hx hb dX5_sure_43 ?_
                refine g_topi (y := nI 1) (by decide) ?_
                refine g_iald hC hP hm.2.1.2 (vp_in_nI (by omega) (by decide)) dX5_sure_44 ?_
                refine g_topi (y := nI (gsn st)) hs0.2.2.2.1 ?_
                refine lv_icmp_ge (tgt := 82) hx hb dX5_sure_45 (by decide) (fun c45 => ?_) (fun c45 => ?_)
                · have c45 := (nI_leI (by omega) (by omega)).mp c45
                  refine lv_iload hx hb dX5_sure_82 (lv_at hl 4 rfl) ?_
                  refine lv_iload_n hx hb dX5_sure_84 rfl (lv_at hl 2 rfl) ?_
                  refine lv_icmp_le (tgt := 93) hx hb dX5_sure_85 (by decide) (fun c85 => ?_) (fun c85 => ?_)
                  · refine lv_iload_n hx hb dX5_sure_93 rfl (lv_at hl 2 rfl) ?_
                    refine lv_istore_n (lv' := [(2, .int x), (0, .ref h), (1, .int (nI 0)), (3, .int (nI z)), (4, .int u), (5, .int (nI y))]) hx hb dX5_sure_94 rfl hl (by decide) rfl (fun ls hl => ?_)
                    refine lv_iinc (v := nI (z + 1)) (lv' := [(3, .int (nI (z + 1))), (2, .int x), (0, .ref h), (1, .int (nI 0)), (4, .int u), (5, .int (nI y))]) hx hb dX5_sure_95 hl (k := 3) rfl (nI_inc _) (by decide) rfl (fun ls hl => ?_)
                    refine lv_goto (tgt := 18) hx hb dX5_sure_98 (by decide) ?_
                    exact ih18 (z + 1) x (by omega) (by omega) (by have e : u = (fun i => mnM (fun k => gsP0 st (i * 4 + k)) (gsn st)) z := (by rw [h2, show y = gsn st from by omega]); show _ = (if mxM (fun i => mnM (fun k => gsP0 st (i * 4 + k)) (gsn st)) z < (fun i => mnM (fun k => gsP0 st (i * 4 + k)) (gsn st)) z then _ else _); rw [← e, ← h1]; first | rw [if_pos (Int32.not_le.mp c85)] | rw [if_neg (Int32.not_lt.mpr c85)]) _ _ hP hS ls (lv_sub hl [2, 3, 1, 0] rfl)
                  · refine lv_iload hx hb dX5_sure_88 (lv_at hl 4 rfl) ?_
                    refine lv_goto (tgt := 94) hx hb dX5_sure_90 (by decide) ?_
                    refine lv_istore_n (lv' := [(2, .int u), (0, .ref h), (1, .int (nI 0)), (3, .int (nI z)), (4, .int u), (5, .int (nI y))]) hx hb dX5_sure_94 rfl hl (by decide) rfl (fun ls hl => ?_)
                    refine lv_iinc (v := nI (z + 1)) (lv' := [(3, .int (nI (z + 1))), (2, .int u), (0, .ref h), (1, .int (nI 0)), (4, .int u), (5, .int (nI y))]) hx hb dX5_sure_95 hl (k := 3) rfl (nI_inc _) (by decide) rfl (fun ls hl => ?_)
                    refine lv_goto (tgt := 18) hx hb dX5_sure_98 (by decide) ?_
                    exact ih18 (z + 1) u (by omega) (by omega) (by have e : u = (fun i => mnM (fun k => gsP0 st (i * 4 + k)) (gsn st)) z := (by rw [h2, show y = gsn st from by omega]); show _ = (if mxM (fun i => mnM (fun k => gsP0 st (i * 4 + k)) (gsn st)) z < (fun i => mnM (fun k => gsP0 st (i * 4 + k)) (gsn st)) z then _ else _); rw [← e, ← h1]; first | rw [if_pos (Int32.not_le.mp c85)] | rw [if_neg (Int32.not_lt.mpr c85)]) _ _ hP hS ls (lv_sub hl [2, 3, 1, 0] rfl)
                · have c45 := mt (nI_leI (by omega) (by omega)).mpr c45
                  refine lv_aload_n hx hb dX5_sure_48 rfl (lv_at hl 0 rfl) ?_
                  refine lv_iload_n hx hb dX5_sure_49 rfl (lv_at hl 1 rfl) ?_
                  refine lv_iload_n hx hb dX5_sure_50 rfl (lv_at hl 3 rfl) ?_
                  refine lv_iload hx hb dX5_sure_51 (lv_at hl 5 rfl) ?_
                  refine g_cp (g_rV (As := [.int (nI 0), .int (nI z), .int (nI y)]) hC hP (c_X5_get l hP (h := h) (w := 0) (i := z) (k := y) (by first | assumption | omega) (by first | assumption | omega) (by first | assumption | omega) (by first | assumption | omega) (by first | assumption | omega)) hm.1 rfl ⟨q3_139, q3_136, q3_138, qs_34, q1_6⟩ dd_X5_get ⟨Nat.le_of_ble_eq_true rfl, Nat.le_of_ble_eq_true rfl, rfl, rfl⟩ hl.1 rfl (Nat.le_of_ble_eq_true rfl) dX5_sure_53 ⟨Nat.le_of_ble_eq_true rfl, Nat.le_of_ble_eq_true rfl⟩) ?_
                  refine W.eq (g2 := F0 m 56 ls [.int (gsP0 st (z * 4 + y))]) rfl ?_
                  refine lv_iload hx hb dX5_sure_56 (lv_at hl 4 rfl) ?_
                  refine lv_icmp_ge (tgt := 72) hx hb dX5_sure_58 (by decide) (fun c58 => ?_) (fun c58 => ?_)
                  · refine lv_iload hx hb dX5_sure_72 (lv_at hl 4 rfl) ?_
                    refine lv_istore (lv' := [(4, .int u), (0, .ref h), (1, .int (nI 0)), (2, .int x), (3, .int (nI z)), (5, .int (nI y))]) hx hb dX5_sure_74 hl (by decide) rfl (fun ls hl => ?_)
                    refine lv_iinc (v := nI (y + 1)) (lv' := [(5, .int (nI (y + 1))), (4, .int u), (0, .ref h), (1, .int (nI 0)), (2, .int x), (3, .int (nI z))]) hx hb dX5_sure_76 hl (k := 5) rfl (nI_inc _) (by decide) rfl (fun ls hl => ?_)
                    refine lv_goto (tgt := 35) hx hb dX5_sure_79 (by decide) ?_
                    exact ih35 (y + 1) u (by omega) (by omega) (by show _ = (if gsP0 st (z * 4 + y) < mnM (fun k => gsP0 st (z * 4 + k)) y then gsP0 st (z * 4 + y) else mnM (fun k => gsP0 st (z * 4 + k)) y); rw [← h2]; first | rw [if_pos (Int32.not_le.mp c58)] | rw [if_neg (Int32.not_lt.mpr c58)]) _ _ hP hS ls (lv_sub hl [2, 3, 4, 5, 1, 0] rfl)
                  · refine lv_aload_n hx hb dX5_sure_61 rfl (lv_at hl 0 rfl) ?_
                    refine lv_iload_n hx hb dX5_sure_62 rfl (lv_at hl 1 rfl) ?_
                    refine lv_iload_n hx hb dX5_sure_63 rfl (lv_at hl 3 rfl) ?_
                    refine lv_iload hx hb dX5_sure_64 (lv_at hl 5 rfl) ?_
                    refine g_cp (g_rV (As := [.int (nI 0), .int (nI z), .int (nI y)]) hC hP (c_X5_get l hP (h := h) (w := 0) (i := z) (k := y) (by first | assumption | omega) (by first | assumption | omega) (by first | assumption | omega) (by first | assumption | omega) (by first | assumption | omega)) hm.1 rfl ⟨q3_139, q3_136, q3_138, qs_34, q1_6⟩ dd_X5_get ⟨Nat.le_of_ble_eq_true rfl, Nat.le_of_ble_eq_true rfl, rfl, rfl⟩ hl.1 rfl (Nat.le_of_ble_eq_true rfl) dX5_sure_66 ⟨Nat.le_of_ble_eq_true rfl, Nat.le_of_ble_eq_true rfl⟩) ?_
                    refine W.eq (g2 := F0 m 69 ls [.int (gsP0 st (z * 4 + y))]) rfl ?_
                    refine lv_goto (tgt := 74) hx hb dX5_sure_69 (by decide) ?_
                    refine lv_istore (lv' := [(4, .int (gsP0 st (z * 4 + y))), (0, .ref h), (1, .int (nI 0)), (2, .int x), (3, .int (nI z)), (5, .int (nI y))]) hx hb dX5_sure_74 hl (by decide) rfl (fun ls hl => ?_)
                    refine lv_iinc (v := nI (y + 1)) (lv' := [(5, .int (nI (y + 1))), (4, .int (gsP0 st (z * 4 + y))), (0, .ref h), (1, .int (nI 0)), (2, .int x), (3, .int (nI z))]) hx hb dX5_sure_76 hl (k := 5) rfl (nI_inc _) (by decide) rfl (fun ls hl => ?_)
                    refine lv_goto (tgt := 35) hx hb dX5_sure_79 (by decide) ?_
                    exact ih35 (y + 1) (gsP0 st (z * 4 + y)) (by omega) (by omega) (by show _ = (if gsP0 st (z * 4 + y) < mnM (fun k => gsP0 st (z * 4 + k)) y then gsP0 st (z * 4 + y) else mnM (fun k => gsP0 st (z * 4 + k)) y); rw [← h2]; first | rw [if_pos (Int32.not_le.mp c58)] | rw [if_neg (Int32.not_lt.mpr c58)]) _ _ hP hS ls (lv_sub hl [2, 3, 4, 5, 1, 0] rfl)
            exact L35 5 0 (nI 21) (by omega) (by omega) rfl _ _ hP hS ls (lv_sub hl [2, 3, 4, 5, 1, 0] rfl)
      exact L18 5 0 (-21 : Int32) (by omega) (by omega) rfl _ _ hP hS ls (lv_sub hl [2, 3, 1, 0] rfl)
    · refine lv_bipush (v := (-21)) hx hb dX5_sure_13 (by decide) ?_
      refine lv_istore_n (lv' := [(2, .int (-21 : Int32)), (0, .ref h), (1, .int (nI 1))]) hx hb dX5_sure_15 rfl hl (by decide) rfl (fun ls hl => ?_)
      refine lv_iconst (v := nI 0) hx hb dX5_sure_16 (by decide) ?_
      refine lv_istore_n (lv' := [(3, .int (nI 0)), (2, .int (-21 : Int32)), (0, .ref h), (1, .int (nI 1))]) hx hb dX5_sure_17 rfl hl (by decide) rfl (fun ls hl => ?_)
      have L18 : ∀ (n18 : Nat) (z : Nat) (x : Int32), 5 ≤ n18 + z → (z ≤ gsn st) → (x = mxM (fun i => mnM (fun k => gsP1 st (i * 4 + k)) (gsm st)) z) → ∀ (Hl : Heap) (lcl : List Loc), gP G T I J Q O Hl → va_S A s.heap Hl lcl → ∀ ls : Array Slot, lv_has ls 6 [(0, .ref h), (1, .int (nI 1)), (2, .int x), (3, .int (nI z))] → W p l e ({ frames := 1, cells := 0, slots := 0, locals := 23 } : Room) s m [.ref h, .int (nI 1)].toArray below meth c Hl lcl 0 0 (MQ below (gQc A (fun x H1 => rSure st (fun x1 s1 => x = some (.int x1) ∧ moR G T h s1 H1) (nI 1))) [.ref h, .int (nI 1)].toArray s 0 0 A) (F0 m 18 ls []) := by
        intro n18
        induction n18 with
        | zero => intro z x hn18 hz h1; exact absurd hn18 (by omega)
        | succ n18 ih18 =>
          intro z x hn18 hz h1 Hl lcl hP hS ls hl
          refine lv_iload_n hx hb dX5_sure_18 rfl (lv_at hl 3 rfl) ?_
          refine lv_aload_n hx hb dX5_sure_19 rfl (lv_at hl 0 rfl) ?_
          refine g_get hC hP hm.1 rfl inX5 0 (by decide) q3_6 hm.2.1.1 dX5_sure_20 ?_
          refine lv_iload_n hx hb dX5_sure_23 rfl (lv_at hl 1 rfl) ?_
          refine g_iald hC hP hm.2.1.2 (vp_in_nI (by omega) (by decide)) dX5_sure_24 ?_
          refine g_topi (y := nI (gsn st)) hs0.2.2.2.1 ?_
          refine lv_icmp_ge (tgt := 101) hx hb dX5_sure_25 (by decide) (fun c25 => ?_) (fun c25 => ?_)
          · have c25 := (nI_leI (by omega) (by omega)).mp c25
            refine lv_iload_n hx hb dX5_sure_101 rfl (lv_at hl 2 rfl) ?_
            refine g_retci hC hS ?_ dX5_sure_102
            refine Or.inr (Or.inr ⟨rfl, ?_, mo_same hm hs0 hP⟩)
            rw [h1, show z = gsn st from by omega, sureM hbd1 (by omega) (by omega)]
          · have c25 := mt (nI_leI (by omega) (by omega)).mpr c25
            refine lv_bipush (v := nI 21) hx hb dX5_sure_28 (by decide) ?_
            refine lv_istore (lv' := [(4, .int (nI 21)), (0, .ref h), (1, .int (nI 1)), (2, .int x), (3, .int (nI z))]) hx hb dX5_sure_30 hl (by decide) rfl (fun ls hl => ?_)
            refine lv_iconst (v := nI 0) hx hb dX5_sure_32 (by decide) ?_
            refine lv_istore (lv' := [(5, .int (nI 0)), (4, .int (nI 21)), (0, .ref h), (1, .int (nI 1)), (2, .int x), (3, .int (nI z))]) hx hb dX5_sure_33 hl (by decide) rfl (fun ls hl => ?_)
            have L35 : ∀ (n35 : Nat) (y : Nat) (u : Int32), 5 ≤ n35 + y → (y ≤ gsm st) → (u = mnM (fun k => gsP1 st (z * 4 + k)) y) → ∀ (Hl : Heap) (lcl : List Loc), gP G T I J Q O Hl → va_S A s.heap Hl lcl → ∀ ls : Array Slot, lv_has ls 6 [(0, .ref h), (1, .int (nI 1)), (2, .int x), (3, .int (nI z)), (4, .int u), (5, .int (nI y))] → W p l e ({ frames := 1, cells := 0, slots := 0, locals := 23 } : Room) s m [.ref h, .int (nI 1)].toArray below meth c Hl lcl 0 0 (MQ below (gQc A (fun x H1 => rSure st (fun x1 s1 => x = some (.int x1) ∧ moR G T h s1 H1) (nI 1))) [.ref h, .int (nI 1)].toArray s 0 0 A) (F0 m 35 ls []) := by
              intro n35
              induction n35 with
              | zero => intro y u hn35 hy h2; exact absurd hn35 (by omega)
              | succ n35 ih35 =>
                intro y u hn35 hy h2 Hl lcl hP hS ls hl
                refine lv_iload hx hb dX5_sure_35 (lv_at hl 5 rfl) ?_
                refine lv_aload_n hx hb dX5_sure_37 rfl (lv_at hl 0 rfl) ?_
                refine g_get hC hP hm.1 rfl inX5 0 (by decide) q3_6 hm.2.1.1 dX5_sure_38 ?_
                refine lv_iconst (v := nI 1) hx hb dX5_sure_41 (by decide) ?_
                refine lv_iload_n hx hb dX5_sure_42 rfl (lv_at hl 1 rfl) ?_
                refine lv_isub hx hb dX5_sure_43 ?_
                refine g_topi (y := nI 0) (by decide) ?_
                refine g_iald hC hP hm.2.1.2 (vp_in_nI (by omega) (by decide)) dX5_sure_44 ?_
                refine g_topi (y := nI (gsm st)) hs0.2.2.1 ?_
                refine lv_icmp_ge (tgt := 82) hx hb dX5_sure_45 (by decide) (fun c45 => ?_) (fun c45 => ?_)
                · have c45 := (nI_leI (by omega) (by omega)).mp c45
                  refine lv_iload hx hb dX5_sure_82 (lv_at hl 4 rfl) ?_
                  refine lv_iload_n hx hb dX5_sure_84 rfl (lv_at hl 2 rfl) ?_
                  refine lv_icmp_le (tgt := 93) hx hb dX5_sure_85 (by decide) (fun c85 => ?_) (fun c85 => ?_)
                  · refine lv_iload_n hx hb dX5_sure_93 rfl (lv_at hl 2 rfl) ?_
                    refine lv_istore_n (lv' := [(2, .int x), (0, .ref h), (1, .int (nI 1)), (3, .int (nI z)), (4, .int u), (5, .int (nI y))]) hx hb dX5_sure_94 rfl hl (by decide) rfl (fun ls hl => ?_)
                    refine lv_iinc (v := nI (z + 1)) (lv' := [(3, .int (nI (z + 1))), (2, .int x), (0, .ref h), (1, .int (nI 1)), (4, .int u), (5, .int (nI y))]) hx hb dX5_sure_95 hl (k := 3) rfl (nI_inc _) (by decide) rfl (fun ls hl => ?_)
                    refine lv_goto (tgt := 18) hx hb dX5_sure_98 (by decide) ?_
                    exact ih18 (z + 1) x (by omega) (by omega) (by have e : u = (fun i => mnM (fun k => gsP1 st (i * 4 + k)) (gsm st)) z := (by rw [h2, show y = gsm st from by omega]); show _ = (if mxM (fun i => mnM (fun k => gsP1 st (i * 4 + k)) (gsm st)) z < (fun i => mnM (fun k => gsP1 st (i * 4 + k)) (gsm st)) z then _ else _); rw [← e, ← h1]; first | rw [if_pos (Int32.not_le.mp c85)] | rw [if_neg (Int32.not_lt.mpr c85)]) _ _ hP hS ls (lv_sub hl [2, 3, 1, 0] rfl)
                  · refine lv_iload hx hb dX5_sure_88 (lv_at hl 4 rfl) ?_
                    refine lv_goto (tgt := 94) hx hb dX5_sure_90 (by decide) ?_
                    refine lv_istore_n (lv' := [(2, .int u), (0, .ref h), (1, .int (nI 1)), (3, .int (nI z)), (4, .int u), (5, .int (nI y))]) hx hb dX5_sure_94 rfl hl (by decide) rfl (fun ls hl => ?_)
                    refine lv_iinc (v := nI (z + 1)) (lv' := [(3, .int (nI (z + 1))), (2, .int u), (0, .ref h), (1, .int (nI 1)), (4, .int u), (5, .int (nI y))]) hx hb dX5_sure_95 hl (k := 3) rfl (nI_inc _) (by decide) rfl (fun ls hl => ?_)
                    refine lv_goto (tgt := 18) hx hb dX5_sure_98 (by decide) ?_
                    exact ih18 (z + 1) u (by omega) (by omega) (by have e : u = (fun i => mnM (fun k => gsP1 st (i * 4 + k)) (gsm st)) z := (by rw [h2, show y = gsm st from by omega]); show _ = (if mxM (fun i => mnM (fun k => gsP1 st (i * 4 + k)) (gsm st)) z < (fun i => mnM (fun k => gsP1 st (i * 4 + k)) (gsm st)) z then _ else _); rw [← e, ← h1]; first | rw [if_pos (Int32.not_le.mp c85)] | rw [if_neg (Int32.not_lt.mpr c85)]) _ _ hP hS ls (lv_sub hl [2, 3, 1, 0] rfl)
                · have c45 := mt (nI_leI (by omega) (by omega)).mpr c45
                  refine lv_aload_n hx hb dX5_sure_48 rfl (lv_at hl 0 rfl) ?_
                  refine lv_iload_n hx hb dX5_sure_49 rfl (lv_at hl 1 rfl) ?_
                  refine lv_iload_n hx hb dX5_sure_50 rfl (lv_at hl 3 rfl) ?_
                  refine lv_iload hx hb dX5_sure_51 (lv_at hl 5 rfl) ?_
                  refine g_cp (g_rV (As := [.int (nI 1), .int (nI z), .int (nI y)]) hC hP (c_X5_get l hP (h := h) (w := 1) (i := z) (k := y) (by first | assumption | omega) (by first | assumption | omega) (by first | assumption | omega) (by first | assumption | omega) (by first | assumption | omega)) hm.1 rfl ⟨q3_139, q3_136, q3_138, qs_34, q1_6⟩ dd_X5_get ⟨Nat.le_of_ble_eq_true rfl, Nat.le_of_ble_eq_true rfl, rfl, rfl⟩ hl.1 rfl (Nat.le_of_ble_eq_true rfl) dX5_sure_53 ⟨Nat.le_of_ble_eq_true rfl, Nat.le_of_ble_eq_true rfl⟩) ?_
                  refine W.eq (g2 := F0 m 56 ls [.int (gsP1 st (z * 4 + y))]) rfl ?_
                  refine lv_iload hx hb dX5_sure_56 (lv_at hl 4 rfl) ?_
                  refine lv_icmp_ge (tgt := 72) hx hb dX5_sure_58 (by decide) (fun c58 => ?_) (fun c58 => ?_)
                  · refine lv_iload hx hb dX5_sure_72 (lv_at hl 4 rfl) ?_
                    refine lv_istore (lv' := [(4, .int u), (0, .ref h), (1, .int (nI 1)), (2, .int x), (3, .int (nI z)), (5, .int (nI y))]) hx hb dX5_sure_74 hl (by decide) rfl (fun ls hl => ?_)
                    refine lv_iinc (v := nI (y + 1)) (lv' := [(5, .int (nI (y + 1))), (4, .int u), (0, .ref h), (1, .int (nI 1)), (2, .int x), (3, .int (nI z))]) hx hb dX5_sure_76 hl (k := 5) rfl (nI_inc _) (by decide) rfl (fun ls hl => ?_)
                    refine lv_goto (tgt := 35) hx hb dX5_sure_79 (by decide) ?_
                    exact ih35 (y + 1) u (by omega) (by omega) (by show _ = (if gsP1 st (z * 4 + y) < mnM (fun k => gsP1 st (z * 4 + k)) y then gsP1 st (z * 4 + y) else mnM (fun k => gsP1 st (z * 4 + k)) y); rw [← h2]; first | rw [if_pos (Int32.not_le.mp c58)] | rw [if_neg (Int32.not_lt.mpr c58)]) _ _ hP hS ls (lv_sub hl [2, 3, 4, 5, 1, 0] rfl)
                  · refine lv_aload_n hx hb dX5_sure_61 rfl (lv_at hl 0 rfl) ?_
                    refine lv_iload_n hx hb dX5_sure_62 rfl (lv_at hl 1 rfl) ?_
                    refine lv_iload_n hx hb dX5_sure_63 rfl (lv_at hl 3 rfl) ?_
                    refine lv_iload hx hb dX5_sure_64 (lv_at hl 5 rfl) ?_
                    refine g_cp (g_rV (As := [.int (nI 1), .int (nI z), .int (nI y)]) hC hP (c_X5_get l hP (h := h) (w := 1) (i := z) (k := y) (by first | assumption | omega) (by first | assumption | omega) (by first | assumption | omega) (by first | assumption | omega) (by first | assumption | omega)) hm.1 rfl ⟨q3_139, q3_136, q3_138, qs_34, q1_6⟩ dd_X5_get ⟨Nat.le_of_ble_eq_true rfl, Nat.le_of_ble_eq_true rfl, rfl, rfl⟩ hl.1 rfl (Nat.le_of_ble_eq_true rfl) dX5_sure_66 ⟨Nat.le_of_ble_eq_true rfl, Nat.le_of_ble_eq_true rfl⟩) ?_
                    refine W.eq (g2 := F0 m 69 ls [.int (gsP1 st (z * 4 + y))]) rfl ?_
                    refine lv_goto (tgt := 74) hx hb dX5_sure_69 (by decide) ?_
                    refine lv_istore (lv' := [(4, .int (gsP1 st (z * 4 + y))), (0, .ref h), (1, .int (nI 1)), (2, .int x), (3, .int (nI z)), (5, .int (nI y))]) hx hb dX5_sure_74 hl (by decide) rfl (fun ls hl => ?_)
                    refine lv_iinc (v := nI (y + 1)) (lv' := [(5, .int (nI (y + 1))), (4, .int (gsP1 st (z * 4 + y))), (0, .ref h), (1, .int (nI 1)), (2, .int x), (3, .int (nI z))]) hx hb dX5_sure_76 hl (k := 5) rfl (nI_inc _) (by decide) rfl (fun ls hl => ?_)
                    refine lv_goto (tgt := 35) hx hb dX5_sure_79 (by decide) ?_
                    exact ih35 (y + 1) (gsP1 st (z * 4 + y)) (by omega) (by omega) (by show _ = (if gsP1 st (z * 4 + y) < mnM (fun k => gsP1 st (z * 4 + k)) y then gsP1 st (z * 4 + y) else mnM (fun k => gsP1 st (z * 4 + k)) y); rw [← h2]; first | rw [if_pos (Int32.not_le.mp c58)] | rw [if_neg (Int32.not_lt.mpr c58)]) _ _ hP hS ls (lv_sub hl [2, 3, 4, 5, 1, 0] rfl)
            exact L35 5 0 (nI 21) (by omega) (by omega) rfl _ _ hP hS ls (lv_sub hl [2, 3, 4, 5, 1, 0] rfl)
      exact L18 5 0 (-21 : Int32) (by omega) (by omega) rfl _ _ hP hS ls (lv_sub hl [2, 3, 1, 0] rfl)
  · have c4 := gb_f c4
    refine lv_aload_n hx hb dX5_sure_7 rfl (lv_at hl 0 rfl) ?_
    refine lv_iconst (v := (-1)) hx hb dX5_sure_8 (by decide) ?_
    refine g_cc (g_rV (As := [.int (-1 : Int32)]) hC hP (c_X5_refuseBig l hP (h := h) (q := (-1 : Int32)) (j := 1) (by first | assumption | omega) (by decide) (by omega)) hm.1 rfl ⟨q3_89, q3_86, q3_88, qs_27, q1_6⟩ dd_X5_refuseBig ⟨Nat.le_of_ble_eq_true rfl, Nat.le_of_ble_eq_true rfl, rfl, rfl⟩ hl.1 rfl (Nat.le_of_ble_eq_true rfl) dX5_sure_9 ⟨Nat.le_of_ble_eq_true rfl, Nat.le_of_ble_eq_true rfl⟩) hS (fun q h => h.elim (hTA q) (fun z => hA q (Nat.le_trans hS.1 z))) (fun r5 H1 locs2 hq6 hS hz3 hfr4 => ?_)
    obtain ⟨rfl, hP⟩ := hq6
    obtain ⟨I7, hI7, hP⟩ : ∃ I7 : gI, I7 = au I (h + 4) 1 (I (h + 4) 1 + 1) ∧ gP G T I7 J Q O H1 := ⟨_, rfl, hP⟩
    refine W.eq (g2 := F0 m 12 ls [.int (1000000000 - (-1 : Int32))]) rfl ?_
    refine g_retci hC hS ?_ dX5_sure_12
    exact Or.inl ⟨c4, rfl, mo_ref hm hs0 (j := 1) (by decide) hI7 hP⟩
set_option maxHeartbeats 4000000 in
set_option maxRecDepth 100000 in
theorem c_X5_hold (l : Launch) {G : gG} {T : gTy} {I : gI} {J : gJ} {Q : gR} {O : gO} {H : Heap} (hP : gP G T I J Q O H) {h : Nat} {st : GS} {q : Int32} (hm : isMo T O h) (hs0 : moS I h st) (hbd0 : bdP (gsP0 st)) (hbd1 : bdP (gsP1 st)) : Met l yX5_hold (gw yX5_hold cX5_hold 6 (some (.int))) ({ frames := 1, cells := 0, slots := 0, locals := 23 } : Room) (gPc G H [.ref h, .int q]) (gQc (gF T H) (fun x H1 => rHold st (fun x1 s1 => x = some (.int x1) ∧ moR G T h s1 H1) q)) 0 0 (gF T H) := by
  refine g_met [(0, .ref h), (1, .int q)] (by decide) rfl (by exact Nat.le_of_ble_eq_true rfl) ?_
  intro p e s m below meth c hC hs ls hl
  have hx := hC.1.1
  have hb := hC.1.2.1
  have hS : va_S (gF T H) s.heap H [] := hs ▸ va_S.rf
  have hTA : ∀ q, (T q).1 ≠ 0 → gF T H q := fun q h => Or.inl h
  have hA : ∀ q, s.heap.size ≤ q → gF T H q := fun q h => Or.inr (hs ▸ h)
  generalize hAe : gF T H = A at hS hTA hA ⊢
  have hms := hs0.1
  have hns := hs0.2.1
  refine lv_iload_n hx hb dX5_hold_0 rfl (lv_at hl 1 rfl) ?_
  refine g_cp (g_rS (As := [.int q]) hC (c_X5_isWho l (q := q)) ⟨q3_78, q3_76, q3_77, q1_6⟩ dd_X5_isWho ⟨Nat.le_of_ble_eq_true rfl, Nat.le_of_ble_eq_true rfl, rfl, rfl⟩ hl.1 rfl (Nat.le_of_ble_eq_true rfl) dX5_hold_1 ⟨Nat.le_of_ble_eq_true rfl, Nat.le_of_ble_eq_true rfl⟩) ?_
  refine W.eq (g2 := F0 m 4 ls [.int (gb (isW q))]) rfl ?_
  refine lv_if_ne (tgt := 13) hx hb dX5_hold_4 (by decide) (fun c4 => ?_) (fun c4 => ?_)
  · have c4 := gb_t c4
    rcases isW_c c4 with rfl | rfl
    · refine lv_bipush (v := nI 21) hx hb dX5_hold_13 (by decide) ?_
      refine lv_istore_n (lv' := [(2, .int (nI 21)), (0, .ref h), (1, .int (nI 0))]) hx hb dX5_hold_15 rfl hl (by decide) rfl (fun ls hl => ?_)
      refine lv_iconst (v := nI 0) hx hb dX5_hold_16 (by decide) ?_
      refine lv_istore_n (lv' := [(3, .int (nI 0)), (2, .int (nI 21)), (0, .ref h), (1, .int (nI 0))]) hx hb dX5_hold_17 rfl hl (by decide) rfl (fun ls hl => ?_)
      have L18 : ∀ (n18 : Nat) (z : Nat) (x : Int32), 5 ≤ n18 + z → (z ≤ gsn st) → (x = mnM (fun k => mxM (fun i => gsP0 st (i * 4 + k)) (gsm st)) z) → ∀ (Hl : Heap) (lcl : List Loc), gP G T I J Q O Hl → va_S A s.heap Hl lcl → ∀ ls : Array Slot, lv_has ls 6 [(0, .ref h), (1, .int (nI 0)), (2, .int x), (3, .int (nI z))] → W p l e ({ frames := 1, cells := 0, slots := 0, locals := 23 } : Room) s m [.ref h, .int (nI 0)].toArray below meth c Hl lcl 0 0 (MQ below (gQc A (fun x H1 => rHold st (fun x1 s1 => x = some (.int x1) ∧ moR G T h s1 H1) (nI 0))) [.ref h, .int (nI 0)].toArray s 0 0 A) (F0 m 18 ls []) := by
        intro n18
        induction n18 with
        | zero => intro z x hn18 hz h1; exact absurd hn18 (by omega)
        | succ n18 ih18 =>
          intro z x hn18 hz h1 Hl lcl hP hS ls hl
          refine lv_iload_n hx hb dX5_hold_18 rfl (lv_at hl 3 rfl) ?_
          refine lv_aload_n hx hb dX5_hold_19 rfl (lv_at hl 0 rfl) ?_
          refine g_get hC hP hm.1 rfl inX5 0 (by decide) q3_6 hm.2.1.1 dX5_hold_20 ?_
          refine lv_iconst (v := nI 1) hx hb dX5_hold_23 (by decide) ?_
          refine lv_iload_n hx hb dX5_hold_24 rfl (lv_at hl 1 rfl) ?_
          refine lv_isub hx hb dX5_hold_25 ?_
          refine g_topi (y := nI 1) (by decide) ?_
          refine g_iald hC hP hm.2.1.2 (vp_in_nI (by omega) (by decide)) dX5_hold_26 ?_
          refine g_topi (y := nI (gsn st)) hs0.2.2.2.1 ?_
          refine lv_icmp_ge (tgt := 101) hx hb dX5_hold_27 (by decide) (fun c27 => ?_) (fun c27 => ?_)
          · have c27 := (nI_leI (by omega) (by omega)).mp c27
            refine lv_iload_n hx hb dX5_hold_101 rfl (lv_at hl 2 rfl) ?_
            refine g_retci hC hS ?_ dX5_hold_102
            refine Or.inr (Or.inl ⟨rfl, ?_, mo_same hm hs0 hP⟩)
            rw [h1, show z = gsn st from by omega, holdM hbd0 (by omega) (by omega)]
          · have c27 := mt (nI_leI (by omega) (by omega)).mpr c27
            refine lv_bipush (v := (-21)) hx hb dX5_hold_30 (by decide) ?_
            refine lv_istore (lv' := [(4, .int (-21 : Int32)), (0, .ref h), (1, .int (nI 0)), (2, .int x), (3, .int (nI z))]) hx hb dX5_hold_32 hl (by decide) rfl (fun ls hl => ?_)
            refine lv_iconst (v := nI 0) hx hb dX5_hold_34 (by decide) ?_
            refine lv_istore (lv' := [(5, .int (nI 0)), (4, .int (-21 : Int32)), (0, .ref h), (1, .int (nI 0)), (2, .int x), (3, .int (nI z))]) hx hb dX5_hold_35 hl (by decide) rfl (fun ls hl => ?_)
            have L37 : ∀ (n37 : Nat) (y : Nat) (u : Int32), 5 ≤ n37 + y → (y ≤ gsm st) → (u = mxM (fun i => gsP0 st (i * 4 + z)) y) → ∀ (Hl : Heap) (lcl : List Loc), gP G T I J Q O Hl → va_S A s.heap Hl lcl → ∀ ls : Array Slot, lv_has ls 6 [(0, .ref h), (1, .int (nI 0)), (2, .int x), (3, .int (nI z)), (4, .int u), (5, .int (nI y))] → W p l e ({ frames := 1, cells := 0, slots := 0, locals := 23 } : Room) s m [.ref h, .int (nI 0)].toArray below meth c Hl lcl 0 0 (MQ below (gQc A (fun x H1 => rHold st (fun x1 s1 => x = some (.int x1) ∧ moR G T h s1 H1) (nI 0))) [.ref h, .int (nI 0)].toArray s 0 0 A) (F0 m 37 ls []) := by
              intro n37
              induction n37 with
              | zero => intro y u hn37 hy h2; exact absurd hn37 (by omega)
              | succ n37 ih37 =>
                intro y u hn37 hy h2 Hl lcl hP hS ls hl
                refine lv_iload hx hb dX5_hold_37 (lv_at hl 5 rfl) ?_
                refine lv_aload_n hx hb dX5_hold_39 rfl (lv_at hl 0 rfl) ?_
                refine g_get hC hP hm.1 rfl inX5 0 (by decide) q3_6 hm.2.1.1 dX5_hold_40 ?_
                refine lv_iload_n hx hb dX5_hold_43 rfl (lv_at hl 1 rfl) ?_
                refine g_iald hC hP hm.2.1.2 (vp_in_nI (by omega) (by decide)) dX5_hold_44 ?_
                refine g_topi (y := nI (gsm st)) hs0.2.2.1 ?_
                refine lv_icmp_ge (tgt := 82) hx hb dX5_hold_45 (by decide) (fun c45 => ?_) (fun c45 => ?_)
                · have c45 := (nI_leI (by omega) (by omega)).mp c45
                  refine lv_iload hx hb dX5_hold_82 (lv_at hl 4 rfl) ?_
                  refine lv_iload_n hx hb dX5_hold_84 rfl (lv_at hl 2 rfl) ?_
                  refine lv_icmp_ge (tgt := 93) hx hb dX5_hold_85 (by decide) (fun c85 => ?_) (fun c85 => ?_)
                  · refine lv_iload_n hx hb dX5_hold_93 rfl (lv_at hl 2 rfl) ?_
                    refine lv_istore_n (lv' := [(2, .int x), (0, .ref h), (1, .int (nI 0)), (3, .int (nI z)), (4, .int u), (5, .int (nI y))]) hx hb dX5_hold_94 rfl hl (by decide) rfl (fun ls hl => ?_)
                    refine lv_iinc (v := nI (z + 1)) (lv' := [(3, .int (nI (z + 1))), (2, .int x), (0, .ref h), (1, .int (nI 0)), (4, .int u), (5, .int (nI y))]) hx hb dX5_hold_95 hl (k := 3) rfl (nI_inc _) (by decide) rfl (fun ls hl => ?_)
                    refine lv_goto (tgt := 18) hx hb dX5_hold_98 (by decide) ?_
                    exact ih18 (z + 1) x (by omega) (by omega) (by have e : u = (fun k => mxM (fun i => gsP0 st (i * 4 + k)) (gsm st)) z := (by rw [h2, show y = gsm st from by omega]); show _ = (if (fun k => mxM (fun i => gsP0 st (i * 4 + k)) (gsm st)) z < mnM (fun k => mxM (fun i => gsP0 st (i * 4 + k)) (gsm st)) z then _ else _); rw [← e, ← h1]; first | rw [if_pos (Int32.not_le.mp c85)] | rw [if_neg (Int32.not_lt.mpr c85)]) _ _ hP hS ls (lv_sub hl [2, 3, 1, 0] rfl)
                  · refine lv_iload hx hb dX5_hold_88 (lv_at hl 4 rfl) ?_
                    refine lv_goto (tgt := 94) hx hb dX5_hold_90 (by decide) ?_
                    refine lv_istore_n (lv' := [(2, .int u), (0, .ref h), (1, .int (nI 0)), (3, .int (nI z)), (4, .int u), (5, .int (nI y))]) hx hb dX5_hold_94 rfl hl (by decide) rfl (fun ls hl => ?_)
                    refine lv_iinc (v := nI (z + 1)) (lv' := [(3, .int (nI (z + 1))), (2, .int u), (0, .ref h), (1, .int (nI 0)), (4, .int u), (5, .int (nI y))]) hx hb dX5_hold_95 hl (k := 3) rfl (nI_inc _) (by decide) rfl (fun ls hl => ?_)
                    refine lv_goto (tgt := 18) hx hb dX5_hold_98 (by decide) ?_
                    exact ih18 (z + 1) u (by omega) (by omega) (by have e : u = (fun k => mxM (fun i => gsP0 st (i * 4 + k)) (gsm st)) z := (by rw [h2, show y = gsm st from by omega]); show _ = (if (fun k => mxM (fun i => gsP0 st (i * 4 + k)) (gsm st)) z < mnM (fun k => mxM (fun i => gsP0 st (i * 4 + k)) (gsm st)) z then _ else _); rw [← e, ← h1]; first | rw [if_pos (Int32.not_le.mp c85)] | rw [if_neg (Int32.not_lt.mpr c85)]) _ _ hP hS ls (lv_sub hl [2, 3, 1, 0] rfl)
                · have c45 := mt (nI_leI (by omega) (by omega)).mpr c45
                  refine lv_aload_n hx hb dX5_hold_48 rfl (lv_at hl 0 rfl) ?_
                  refine lv_iload_n hx hb dX5_hold_49 rfl (lv_at hl 1 rfl) ?_
                  refine lv_iload hx hb dX5_hold_50 (lv_at hl 5 rfl) ?_
                  refine lv_iload_n hx hb dX5_hold_52 rfl (lv_at hl 3 rfl) ?_
                  refine g_cp (g_rV (As := [.int (nI 0), .int (nI y), .int (nI z)]) hC hP (c_X5_get l hP (h := h) (w := 0) (i := y) (k := z) (by first | assumption | omega) (by first | assumption | omega) (by first | assumption | omega) (by first | assumption | omega) (by first | assumption | omega)) hm.1 rfl ⟨q3_139, q3_136, q3_138, qs_34, q1_6⟩ dd_X5_get ⟨Nat.le_of_ble_eq_true rfl, Nat.le_of_ble_eq_true rfl, rfl, rfl⟩ hl.1 rfl (Nat.le_of_ble_eq_true rfl) dX5_hold_53 ⟨Nat.le_of_ble_eq_true rfl, Nat.le_of_ble_eq_true rfl⟩) ?_
                  refine W.eq (g2 := F0 m 56 ls [.int (gsP0 st (y * 4 + z))]) rfl ?_
                  refine lv_iload hx hb dX5_hold_56 (lv_at hl 4 rfl) ?_
                  refine lv_icmp_le (tgt := 72) hx hb dX5_hold_58 (by decide) (fun c58 => ?_) (fun c58 => ?_)
                  · refine lv_iload hx hb dX5_hold_72 (lv_at hl 4 rfl) ?_
                    refine lv_istore (lv' := [(4, .int u), (0, .ref h), (1, .int (nI 0)), (2, .int x), (3, .int (nI z)), (5, .int (nI y))]) hx hb dX5_hold_74 hl (by decide) rfl (fun ls hl => ?_)
                    refine lv_iinc (v := nI (y + 1)) (lv' := [(5, .int (nI (y + 1))), (4, .int u), (0, .ref h), (1, .int (nI 0)), (2, .int x), (3, .int (nI z))]) hx hb dX5_hold_76 hl (k := 5) rfl (nI_inc _) (by decide) rfl (fun ls hl => ?_)
                    refine lv_goto (tgt := 37) hx hb dX5_hold_79 (by decide) ?_
                    exact ih37 (y + 1) u (by omega) (by omega) (by show _ = (if mxM (fun i => gsP0 st (i * 4 + z)) y < gsP0 st (y * 4 + z) then gsP0 st (y * 4 + z) else mxM (fun i => gsP0 st (i * 4 + z)) y); rw [← h2]; first | rw [if_pos (Int32.not_le.mp c58)] | rw [if_neg (Int32.not_lt.mpr c58)]) _ _ hP hS ls (lv_sub hl [2, 3, 4, 5, 1, 0] rfl)
                  · refine lv_aload_n hx hb dX5_hold_61 rfl (lv_at hl 0 rfl) ?_
                    refine lv_iload_n hx hb dX5_hold_62 rfl (lv_at hl 1 rfl) ?_
                    refine lv_iload hx hb dX5_hold_63 (lv_at hl 5 rfl) ?_
                    refine lv_iload_n hx hb dX5_hold_65 rfl (lv_at hl 3 rfl) ?_
                    refine g_cp (g_rV (As := [.int (nI 0), .int (nI y), .int (nI z)]) hC hP (c_X5_get l hP (h := h) (w := 0) (i := y) (k := z) (by first | assumption | omega) (by first | assumption | omega) (by first | assumption | omega) (by first | assumption | omega) (by first | assumption | omega)) hm.1 rfl ⟨q3_139, q3_136, q3_138, qs_34, q1_6⟩ dd_X5_get ⟨Nat.le_of_ble_eq_true rfl, Nat.le_of_ble_eq_true rfl, rfl, rfl⟩ hl.1 rfl (Nat.le_of_ble_eq_true rfl) dX5_hold_66 ⟨Nat.le_of_ble_eq_true rfl, Nat.le_of_ble_eq_true rfl⟩) ?_
                    refine W.eq (g2 := F0 m 69 ls [.int (gsP0 st (y * 4 + z))]) rfl ?_
                    refine lv_goto (tgt := 74) hx hb dX5_hold_69 (by decide) ?_
                    refine lv_istore (lv' := [(4, .int (gsP0 st (y * 4 + z))), (0, .ref h), (1, .int (nI 0)), (2, .int x), (3, .int (nI z)), (5, .int (nI y))]) hx hb dX5_hold_74 hl (by decide) rfl (fun ls hl => ?_)
                    refine lv_iinc (v := nI (y + 1)) (lv' := [(5, .int (nI (y + 1))), (4, .int (gsP0 st (y * 4 + z))), (0, .ref h), (1, .int (nI 0)), (2, .int x), (3, .int (nI z))]) hx hb dX5_hold_76 hl (k := 5) rfl (nI_inc _) (by decide) rfl (fun ls hl => ?_)
                    refine lv_goto (tgt := 37) hx hb dX5_hold_79 (by decide) ?_
                    exact ih37 (y + 1) (gsP0 st (y * 4 + z)) (by omega) (by omega) (by show _ = (if mxM (fun i => gsP0 st (i * 4 + z)) y < gsP0 st (y * 4 + z) then gsP0 st (y * 4 + z) else mxM (fun i => gsP0 st (i * 4 + z)) y); rw [← h2]; first | rw [if_pos (Int32.not_le.mp c58)] | rw [if_neg (Int32.not_lt.mpr c58)]) _ _ hP hS ls (lv_sub hl [2, 3, 4, 5, 1, 0] rfl)
            exact L37 5 0 (-21 : Int32) (by omega) (by omega) rfl _ _ hP hS ls (lv_sub hl [2, 3, 4, 5, 1, 0] rfl)
      exact L18 5 0 (nI 21) (by omega) (by omega) rfl _ _ hP hS ls (lv_sub hl [2, 3, 1, 0] rfl)
    · refine lv_bipush (v := nI 21) hx hb dX5_hold_13 (by decide) ?_
      refine lv_istore_n (lv' := [(2, .int (nI 21)), (0, .ref h), (1, .int (nI 1))]) hx hb dX5_hold_15 rfl hl (by decide) rfl (fun ls hl => ?_)
      refine lv_iconst (v := nI 0) hx hb dX5_hold_16 (by decide) ?_
      refine lv_istore_n (lv' := [(3, .int (nI 0)), (2, .int (nI 21)), (0, .ref h), (1, .int (nI 1))]) hx hb dX5_hold_17 rfl hl (by decide) rfl (fun ls hl => ?_)
      have L18 : ∀ (n18 : Nat) (z : Nat) (x : Int32), 5 ≤ n18 + z → (z ≤ gsm st) → (x = mnM (fun k => mxM (fun i => gsP1 st (i * 4 + k)) (gsn st)) z) → ∀ (Hl : Heap) (lcl : List Loc), gP G T I J Q O Hl → va_S A s.heap Hl lcl → ∀ ls : Array Slot, lv_has ls 6 [(0, .ref h), (1, .int (nI 1)), (2, .int x), (3, .int (nI z))] → W p l e ({ frames := 1, cells := 0, slots := 0, locals := 23 } : Room) s m [.ref h, .int (nI 1)].toArray below meth c Hl lcl 0 0 (MQ below (gQc A (fun x H1 => rHold st (fun x1 s1 => x = some (.int x1) ∧ moR G T h s1 H1) (nI 1))) [.ref h, .int (nI 1)].toArray s 0 0 A) (F0 m 18 ls []) := by
        intro n18
        induction n18 with
        | zero => intro z x hn18 hz h1; exact absurd hn18 (by omega)
        | succ n18 ih18 =>
          intro z x hn18 hz h1 Hl lcl hP hS ls hl
          refine lv_iload_n hx hb dX5_hold_18 rfl (lv_at hl 3 rfl) ?_
          refine lv_aload_n hx hb dX5_hold_19 rfl (lv_at hl 0 rfl) ?_
          refine g_get hC hP hm.1 rfl inX5 0 (by decide) q3_6 hm.2.1.1 dX5_hold_20 ?_
          refine lv_iconst (v := nI 1) hx hb dX5_hold_23 (by decide) ?_
          refine lv_iload_n hx hb dX5_hold_24 rfl (lv_at hl 1 rfl) ?_
          refine lv_isub hx hb dX5_hold_25 ?_
          refine g_topi (y := nI 0) (by decide) ?_
          refine g_iald hC hP hm.2.1.2 (vp_in_nI (by omega) (by decide)) dX5_hold_26 ?_
          refine g_topi (y := nI (gsm st)) hs0.2.2.1 ?_
          refine lv_icmp_ge (tgt := 101) hx hb dX5_hold_27 (by decide) (fun c27 => ?_) (fun c27 => ?_)
          · have c27 := (nI_leI (by omega) (by omega)).mp c27
            refine lv_iload_n hx hb dX5_hold_101 rfl (lv_at hl 2 rfl) ?_
            refine g_retci hC hS ?_ dX5_hold_102
            refine Or.inr (Or.inr ⟨rfl, ?_, mo_same hm hs0 hP⟩)
            rw [h1, show z = gsm st from by omega, holdM hbd1 (by omega) (by omega)]
          · have c27 := mt (nI_leI (by omega) (by omega)).mpr c27
            refine lv_bipush (v := (-21)) hx hb dX5_hold_30 (by decide) ?_
            refine lv_istore (lv' := [(4, .int (-21 : Int32)), (0, .ref h), (1, .int (nI 1)), (2, .int x), (3, .int (nI z))]) hx hb dX5_hold_32 hl (by decide) rfl (fun ls hl => ?_)
            refine lv_iconst (v := nI 0) hx hb dX5_hold_34 (by decide) ?_
            refine lv_istore (lv' := [(5, .int (nI 0)), (4, .int (-21 : Int32)), (0, .ref h), (1, .int (nI 1)), (2, .int x), (3, .int (nI z))]) hx hb dX5_hold_35 hl (by decide) rfl (fun ls hl => ?_)
            have L37 : ∀ (n37 : Nat) (y : Nat) (u : Int32), 5 ≤ n37 + y → (y ≤ gsn st) → (u = mxM (fun i => gsP1 st (i * 4 + z)) y) → ∀ (Hl : Heap) (lcl : List Loc), gP G T I J Q O Hl → va_S A s.heap Hl lcl → ∀ ls : Array Slot, lv_has ls 6 [(0, .ref h), (1, .int (nI 1)), (2, .int x), (3, .int (nI z)), (4, .int u), (5, .int (nI y))] → W p l e ({ frames := 1, cells := 0, slots := 0, locals := 23 } : Room) s m [.ref h, .int (nI 1)].toArray below meth c Hl lcl 0 0 (MQ below (gQc A (fun x H1 => rHold st (fun x1 s1 => x = some (.int x1) ∧ moR G T h s1 H1) (nI 1))) [.ref h, .int (nI 1)].toArray s 0 0 A) (F0 m 37 ls []) := by
              intro n37
              induction n37 with
              | zero => intro y u hn37 hy h2; exact absurd hn37 (by omega)
              | succ n37 ih37 =>
                intro y u hn37 hy h2 Hl lcl hP hS ls hl
                refine lv_iload hx hb dX5_hold_37 (lv_at hl 5 rfl) ?_
                refine lv_aload_n hx hb dX5_hold_39 rfl (lv_at hl 0 rfl) ?_
                refine g_get hC hP hm.1 rfl inX5 0 (by decide) q3_6 hm.2.1.1 dX5_hold_40 ?_
                refine lv_iload_n hx hb dX5_hold_43 rfl (lv_at hl 1 rfl) ?_
                refine g_iald hC hP hm.2.1.2 (vp_in_nI (by omega) (by decide)) dX5_hold_44 ?_
                refine g_topi (y := nI (gsn st)) hs0.2.2.2.1 ?_
                refine lv_icmp_ge (tgt := 82) hx hb dX5_hold_45 (by decide) (fun c45 => ?_) (fun c45 => ?_)
                · have c45 := (nI_leI (by omega) (by omega)).mp c45
                  refine lv_iload hx hb dX5_hold_82 (lv_at hl 4 rfl) ?_
                  refine lv_iload_n hx hb dX5_hold_84 rfl (lv_at hl 2 rfl) ?_
                  refine lv_icmp_ge (tgt := 93) hx hb dX5_hold_85 (by decide) (fun c85 => ?_) (fun c85 => ?_)
                  · refine lv_iload_n hx hb dX5_hold_93 rfl (lv_at hl 2 rfl) ?_
                    refine lv_istore_n (lv' := [(2, .int x), (0, .ref h), (1, .int (nI 1)), (3, .int (nI z)), (4, .int u), (5, .int (nI y))]) hx hb dX5_hold_94 rfl hl (by decide) rfl (fun ls hl => ?_)
                    refine lv_iinc (v := nI (z + 1)) (lv' := [(3, .int (nI (z + 1))), (2, .int x), (0, .ref h), (1, .int (nI 1)), (4, .int u), (5, .int (nI y))]) hx hb dX5_hold_95 hl (k := 3) rfl (nI_inc _) (by decide) rfl (fun ls hl => ?_)
                    refine lv_goto (tgt := 18) hx hb dX5_hold_98 (by decide) ?_
                    exact ih18 (z + 1) x (by omega) (by omega) (by have e : u = (fun k => mxM (fun i => gsP1 st (i * 4 + k)) (gsn st)) z := (by rw [h2, show y = gsn st from by omega]); show _ = (if (fun k => mxM (fun i => gsP1 st (i * 4 + k)) (gsn st)) z < mnM (fun k => mxM (fun i => gsP1 st (i * 4 + k)) (gsn st)) z then _ else _); rw [← e, ← h1]; first | rw [if_pos (Int32.not_le.mp c85)] | rw [if_neg (Int32.not_lt.mpr c85)]) _ _ hP hS ls (lv_sub hl [2, 3, 1, 0] rfl)
                  · refine lv_iload hx hb dX5_hold_88 (lv_at hl 4 rfl) ?_
                    refine lv_goto (tgt := 94) hx hb dX5_hold_90 (by decide) ?_
                    refine lv_istore_n (lv' := [(2, .int u), (0, .ref h), (1, .int (nI 1)), (3, .int (nI z)), (4, .int u), (5, .int (nI y))]) hx hb dX5_hold_94 rfl hl (by decide) rfl (fun ls hl => ?_)
                    refine lv_iinc (v := nI (z + 1)) (lv' := [(3, .int (nI (z + 1))), (2, .int u), (0, .ref h), (1, .int (nI 1)), (4, .int u), (5, .int (nI y))]) hx hb dX5_hold_95 hl (k := 3) rfl (nI_inc _) (by decide) rfl (fun ls hl => ?_)
                    refine lv_goto (tgt := 18) hx hb dX5_hold_98 (by decide) ?_
                    exact ih18 (z + 1) u (by omega) (by omega) (by have e : u = (fun k => mxM (fun i => gsP1 st (i * 4 + k)) (gsn st)) z := (by rw [h2, show y = gsn st from by omega]); show _ = (if (fun k => mxM (fun i => gsP1 st (i * 4 + k)) (gsn st)) z < mnM (fun k => mxM (fun i => gsP1 st (i * 4 + k)) (gsn st)) z then _ else _); rw [← e, ← h1]; first | rw [if_pos (Int32.not_le.mp c85)] | rw [if_neg (Int32.not_lt.mpr c85)]) _ _ hP hS ls (lv_sub hl [2, 3, 1, 0] rfl)
                · have c45 := mt (nI_leI (by omega) (by omega)).mpr c45
                  refine lv_aload_n hx hb dX5_hold_48 rfl (lv_at hl 0 rfl) ?_
                  refine lv_iload_n hx hb dX5_hold_49 rfl (lv_at hl 1 rfl) ?_
                  refine lv_iload hx hb dX5_hold_50 (lv_at hl 5 rfl) ?_
                  refine lv_iload_n hx hb dX5_hold_52 rfl (lv_at hl 3 rfl) ?_
                  refine g_cp (g_rV (As := [.int (nI 1), .int (nI y), .int (nI z)]) hC hP (c_X5_get l hP (h := h) (w := 1) (i := y) (k := z) (by first | assumption | omega) (by first | assumption | omega) (by first | assumption | omega) (by first | assumption | omega) (by first | assumption | omega)) hm.1 rfl ⟨q3_139, q3_136, q3_138, qs_34, q1_6⟩ dd_X5_get ⟨Nat.le_of_ble_eq_true rfl, Nat.le_of_ble_eq_true rfl, rfl, rfl⟩ hl.1 rfl (Nat.le_of_ble_eq_true rfl) dX5_hold_53 ⟨Nat.le_of_ble_eq_true rfl, Nat.le_of_ble_eq_true rfl⟩) ?_
                  refine W.eq (g2 := F0 m 56 ls [.int (gsP1 st (y * 4 + z))]) rfl ?_
                  refine lv_iload hx hb dX5_hold_56 (lv_at hl 4 rfl) ?_
                  refine lv_icmp_le (tgt := 72) hx hb dX5_hold_58 (by decide) (fun c58 => ?_) (fun c58 => ?_)
                  · refine lv_iload hx hb dX5_hold_72 (lv_at hl 4 rfl) ?_
                    refine lv_istore (lv' := [(4, .int u), (0, .ref h), (1, .int (nI 1)), (2, .int x), (3, .int (nI z)), (5, .int (nI y))]) hx hb dX5_hold_74 hl (by decide) rfl (fun ls hl => ?_)
                    refine lv_iinc (v := nI (y + 1)) (lv' := [(5, .int (nI (y + 1))), (4, .int u), (0, .ref h), (1, .int (nI 1)), (2, .int x), (3, .int (nI z))]) hx hb dX5_hold_76 hl (k := 5) rfl (nI_inc _) (by decide) rfl (fun ls hl => ?_)
                    refine lv_goto (tgt := 37) hx hb dX5_hold_79 (by decide) ?_
                    exact ih37 (y + 1) u (by omega) (by omega) (by show _ = (if mxM (fun i => gsP1 st (i * 4 + z)) y < gsP1 st (y * 4 + z) then gsP1 st (y * 4 + z) else mxM (fun i => gsP1 st (i * 4 + z)) y); rw [← h2]; first | rw [if_pos (Int32.not_le.mp c58)] | rw [if_neg (Int32.not_lt.mpr c58)]) _ _ hP hS ls (lv_sub hl [2, 3, 4, 5, 1, 0] rfl)
                  · refine lv_aload_n hx hb dX5_hold_61 rfl (lv_at hl 0 rfl) ?_
                    refine lv_iload_n hx hb dX5_hold_62 rfl (lv_at hl 1 rfl) ?_
                    refine lv_iload hx hb dX5_hold_63 (lv_at hl 5 rfl) ?_
                    refine lv_iload_n hx hb dX5_hold_65 rfl (lv_at hl 3 rfl) ?_
                    refine g_cp (g_rV (As := [.int (nI 1), .int (nI y), .int (nI z)]) hC hP (c_X5_get l hP (h := h) (w := 1) (i := y) (k := z) (by first | assumption | omega) (by first | assumption | omega) (by first | assumption | omega) (by first | assumption | omega) (by first | assumption | omega)) hm.1 rfl ⟨q3_139, q3_136, q3_138, qs_34, q1_6⟩ dd_X5_get ⟨Nat.le_of_ble_eq_true rfl, Nat.le_of_ble_eq_true rfl, rfl, rfl⟩ hl.1 rfl (Nat.le_of_ble_eq_true rfl) dX5_hold_66 ⟨Nat.le_of_ble_eq_true rfl, Nat.le_of_ble_eq_true rfl⟩) ?_
                    refine W.eq (g2 := F0 m 69 ls [.int (gsP1 st (y * 4 + z))]) rfl ?_
                    refine lv_goto (tgt := 74) hx hb dX5_hold_69 (by decide) ?_
                    refine lv_istore (lv' := [(4, .int (gsP1 st (y * 4 + z))), (0, .ref h), (1, .int (nI 1)), (2, .int x), (3, .int (nI z)), (5, .int (nI y))]) hx hb dX5_hold_74 hl (by decide) rfl (fun ls hl => ?_)
                    refine lv_iinc (v := nI (y + 1)) (lv' := [(5, .int (nI (y + 1))), (4, .int (gsP1 st (y * 4 + z))), (0, .ref h), (1, .int (nI 1)), (2, .int x), (3, .int (nI z))]) hx hb dX5_hold_76 hl (k := 5) rfl (nI_inc _) (by decide) rfl (fun ls hl => ?_)
                    refine lv_goto (tgt := 37) hx hb dX5_hold_79 (by decide) ?_
                    exact ih37 (y + 1) (gsP1 st (y * 4 + z)) (by omega) (by omega) (by show _ = (if mxM (fun i => gsP1 st (i * 4 + z)) y < gsP1 st (y * 4 + z) then gsP1 st (y * 4 + z) else mxM (fun i => gsP1 st (i * 4 + z)) y); rw [← h2]; first | rw [if_pos (Int32.not_le.mp c58)] | rw [if_neg (Int32.not_lt.mpr c58)]) _ _ hP hS ls (lv_sub hl [2, 3, 4, 5, 1, 0] rfl)
            exact L37 5 0 (-21 : Int32) (by omega) (by omega) rfl _ _ hP hS ls (lv_sub hl [2, 3, 4, 5, 1, 0] rfl)
      exact L18 5 0 (nI 21) (by omega) (by omega) rfl _ _ hP hS ls (lv_sub hl [2, 3, 1, 0] rfl)
  · have c4 := gb_f c4
    refine lv_aload_n hx hb dX5_hold_7 rfl (lv_at hl 0 rfl) ?_
    refine lv_iconst (v := (-1)) hx hb dX5_hold_8 (by decide) ?_
    refine g_cc (g_rV (As := [.int (-1 : Int32)]) hC hP (c_X5_refuseBig l hP (h := h) (q := (-1 : Int32)) (j := 1) (by first | assumption | omega) (by decide) (by omega)) hm.1 rfl ⟨q3_89, q3_86, q3_88, qs_27, q1_6⟩ dd_X5_refuseBig ⟨Nat.le_of_ble_eq_true rfl, Nat.le_of_ble_eq_true rfl, rfl, rfl⟩ hl.1 rfl (Nat.le_of_ble_eq_true rfl) dX5_hold_9 ⟨Nat.le_of_ble_eq_true rfl, Nat.le_of_ble_eq_true rfl⟩) hS (fun q h => h.elim (hTA q) (fun z => hA q (Nat.le_trans hS.1 z))) (fun r5 H1 locs2 hq6 hS hz3 hfr4 => ?_)
    obtain ⟨rfl, hP⟩ := hq6
    obtain ⟨I7, hI7, hP⟩ : ∃ I7 : gI, I7 = au I (h + 4) 1 (I (h + 4) 1 + 1) ∧ gP G T I7 J Q O H1 := ⟨_, rfl, hP⟩
    refine W.eq (g2 := F0 m 12 ls [.int (1000000000 - (-1 : Int32))]) rfl ?_
    refine g_retci hC hS ?_ dX5_hold_12
    exact Or.inl ⟨c4, rfl, mo_ref hm hs0 (j := 1) (by decide) hI7 hP⟩
