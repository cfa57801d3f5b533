set_option maxHeartbeats 4000000 in
set_option maxRecDepth 100000 in
theorem c_X0_makePositive (l : Launch) {G : gG} {T : gTy} {I : gI} {J : gJ} {Q : gR} {O : gO} {H : Heap} (hP : gP G T I J Q O H) {k sp u : Nat} (hco : coG T Q O k) (hks : O k 2 = .ref sp) (hms : isMx T O sp) (hu : u < 16) : Met l yX0_makePositive (gw yX0_makePositive cX0_makePositive 5 (some (.boolean))) ({ frames := 2, cells := 0, slots := 0, locals := 43 } : Room) (gPc G H [.ref k, .int (nI u)]) (gQc (gF T H) (fun r H1 => (r = some (.int (gb true)) ∧ posOK (J (sp + 1)) u = true ∧ gP G T I (gu J (sp + 1) (mulR (J (sp + 1)) (sgnF (J (sp + 1)) u) 4)) Q O H1) ∨ (r = some (.int (gb false)) ∧ posOK (J (sp + 1)) u = false ∧ ∃ X2 : Nat → Int64, gP G T I (gu J (sp + 1) X2) Q O H1))) 0 0 (gF T H) := by
  refine g_met [(0, .ref k), (1, .int (nI u))] (by decide) rfl (by exact Nat.le_of_ble_eq_true rfl) ?_
  intro p e s m below meth c hC hs ls hl
  have hx := hC.1.1
  have hb := hC.1.2.1
  have hS : va_S (gF T H) s.heap H [] := hs ▸ va_S.rf
  have hTA : ∀ q, (T q).1 ≠ 0 → gF T H q := fun q h => Or.inl h
  have hA : ∀ q, s.heap.size ≤ q → gF T H q := fun q h => Or.inr (hs ▸ h)
  generalize hAe : gF T H = A at hS hTA hA ⊢
  refine lv_aload_n hx hb dX0_makePositive_0 rfl (lv_at hl 0 rfl) ?_
  refine lv_iload_n hx hb dX0_makePositive_1 rfl (lv_at hl 1 rfl) ?_
  refine g_cp (g_rV (As := [.int (nI u)]) hC hP (c_X0_signOfFirst l hP (k := k) (u := u) (by first | assumption | omega) (by first | assumption | omega) (by first | assumption | omega) (by first | assumption | omega)) hco.1 rfl ⟨q2_130, q2_127, q2_129, qs_17, q1_3⟩ dd_X0_signOfFirst ⟨Nat.le_of_ble_eq_true rfl, Nat.le_of_ble_eq_true rfl, rfl, rfl⟩ hl.1 rfl (Nat.le_of_ble_eq_true rfl) dX0_makePositive_2 ⟨Nat.le_of_ble_eq_true rfl, Nat.le_of_ble_eq_true rfl⟩) ?_
  refine W.eq (g2 := F0 m 5 ls [.long (sgnF (J (sp + 1)) u)]) rfl ?_
  refine lv_lstore_n (lv' := [(2, .long (sgnF (J (sp + 1)) u)), (0, .ref k), (1, .int (nI u))]) hx hb dX0_makePositive_5 rfl hl (by decide) rfl (fun ls hl => ?_)
  refine lv_iconst (v := nI 0) hx hb dX0_makePositive_6 (by decide) ?_
  refine lv_istore (lv' := [(4, .int (nI 0)), (2, .long (sgnF (J (sp + 1)) u)), (0, .ref k), (1, .int (nI u))]) hx hb dX0_makePositive_7 hl (by decide) rfl (fun ls hl => ?_)
  have L9 : ∀ (n9 : Nat) (i : Nat) (J2 : gJ), 5 ≤ n9 + i → (i ≤ 4) → (∀ k, k < i → u.testBit k = true → 0 < J (sp + 1) k * sgnF (J (sp + 1)) u) → (J2 = gu J (sp + 1) (mulR (J (sp + 1)) (sgnF (J (sp + 1)) u) i)) → ∀ (H : Heap) (locs : List Loc), gP G T I J2 Q O H → va_S A s.heap H locs → ∀ ls : Array Slot, lv_has ls 5 [(0, .ref k), (1, .int (nI u)), (2, .long (sgnF (J (sp + 1)) u)), (4, .int (nI i))] → W p l e ({ frames := 2, cells := 0, slots := 0, locals := 43 } : Room) s m [.ref k, .int (nI u)].toArray below meth c H locs 0 0 (MQ below (gQc A (fun r H1 => (r = some (.int (gb true)) ∧ posOK (J (sp + 1)) u = true ∧ gP G T I (gu J (sp + 1) (mulR (J (sp + 1)) (sgnF (J (sp + 1)) u) 4)) Q O H1) ∨ (r = some (.int (gb false)) ∧ posOK (J (sp + 1)) u = false ∧ ∃ X2 : Nat → Int64, gP G T I (gu J (sp + 1) X2) Q O H1))) [.ref k, .int (nI u)].toArray s 0 0 A) (F0 m 9 ls []) := by
    intro n9
    induction n9 with
    | zero => intro i J2 hn9 hi h1 h2; exact absurd hn9 (by omega)
    | succ n9 ih9 =>
      intro i J2 hn9 hi h1 h2 H locs hP hS ls hl
      refine lv_iload hx hb dX0_makePositive_9 (lv_at hl 3 rfl) ?_
      refine lv_iconst (v := nI 4) hx hb dX0_makePositive_11 (by decide) ?_
      refine lv_icmp_ge (tgt := 61) hx hb dX0_makePositive_12 (by decide) (fun c12 => ?_) (fun c12 => ?_)
      · have c12 := (nI_leI (by omega) (by omega)).mp c12
        refine lv_iconst (v := nI 1) hx hb dX0_makePositive_61 (by decide) ?_
        refine g_retcz hC hS (b := true) (by decide) ?_ dX0_makePositive_62
        refine Or.inl ⟨rfl, posOK_iff.mpr (fun j h hj => h1 j (by omega) hj), ?_⟩
        have e : i = 4 := by omega
        subst e
        subst h2
        exact hP
      · have c12 := mt (nI_leI (by omega) (by omega)).mpr c12
        refine lv_aload_n hx hb dX0_makePositive_15 rfl (lv_at hl 0 rfl) ?_
        refine g_get hC hP hco.1 rfl inX0 2 (by decide) q1_64 hks dX0_makePositive_16 ?_
        refine g_get hC hP hms.1 rfl inX2 0 (by decide) q1_38 hms.2.1 dX0_makePositive_19 ?_
        refine lv_iload hx hb dX0_makePositive_22 (lv_at hl 3 rfl) ?_
        refine lv_dup2_11 hx hb dX0_makePositive_24 rfl rfl ?_
        refine g_lald hC hP hms.2.2 (vp_in_nI (by omega) (by decide)) dX0_makePositive_25 ?_
        refine g_topl (y := J2 (sp + 1) i) (congrArg (J2 (sp + 1)) (nI_clamp (by omega))) ?_
        refine lv_lload_n hx hb dX0_makePositive_26 rfl (lv_at hl 2 rfl) ?_
        refine lv_lmul hx hb dX0_makePositive_27 ?_
        refine g_last hC hP hS hTA hms.2.2 (vp_in_nI (by omega) (by decide)) dX0_makePositive_28 (fun H1 locs2 hP hS hz4 => ?_)
        rw [show (nI i).toNatClampNeg = i from nI_clamp (by omega)] at hP
        obtain ⟨J3, hJ3, hP⟩ : ∃ X : gJ, X = au J2 (sp + 1) i ((J2 (sp + 1) i) * (sgnF (J (sp + 1)) u)) ∧ gP G T I X Q O H1 := ⟨_, rfl, hP⟩
        refine lv_iload_n hx hb dX0_makePositive_29 rfl (lv_at hl 1 rfl) ?_
        refine lv_iload hx hb dX0_makePositive_30 (lv_at hl 3 rfl) ?_
        refine g_cp (g_rSN (As := [.int (nI u), .int (nI i)]) hC (c_X4_hasBit l (B := u) (k := i) (by first | assumption | omega) (by first | assumption | omega)) ⟨q2_11, List.mem_of_getElem? (i := 8) rfl, q2_10, q1_1⟩ dd_X4_hasBit ⟨Nat.le_of_ble_eq_true rfl, Nat.le_of_ble_eq_true rfl, rfl, rfl⟩ hl.1 rfl (Nat.le_of_ble_eq_true rfl) dX0_makePositive_32 ⟨Nat.le_of_ble_eq_true rfl, Nat.le_of_ble_eq_true rfl⟩) ?_
        refine W.eq (g2 := F0 m 35 ls [.int (gb (u.testBit i))]) rfl ?_
        refine lv_if_eq (tgt := 55) hx hb dX0_makePositive_35 (by decide) (fun c35 => ?_) (fun c35 => ?_)
        · have c35 := gb_f c35
          refine lv_iinc (v := nI (i + 1)) (lv' := [(4, .int (nI (i + 1))), (0, .ref k), (1, .int (nI u)), (2, .long (sgnF (J (sp + 1)) u))]) hx hb dX0_makePositive_55 hl (k := 3) rfl (nI_inc _) (by decide) rfl (fun ls hl => ?_)
          refine lv_goto (tgt := 9) hx hb dX0_makePositive_58 (by decide) ?_
          exact ih9 (i + 1) J3 (by omega) (by omega) (fun j h hj => by rcases Nat.lt_succ_iff_lt_or_eq.mp h with h | rfl <;> first | exact h1 j h hj | exact c50 | (rw [hj] at c35; cases c35)) (by rw [hJ3, h2, au_gu, gu_eq, mulR_s]) _ _ hP hS ls (lv_sub hl [1, 2, 3, 0] rfl)
        · have c35 := gb_t c35
          refine lv_aload_n hx hb dX0_makePositive_38 rfl (lv_at hl 0 rfl) ?_
          refine g_get hC hP hco.1 rfl inX0 2 (by decide) q1_64 hks dX0_makePositive_39 ?_
          refine g_get hC hP hms.1 rfl inX2 0 (by decide) q1_38 hms.2.1 dX0_makePositive_42 ?_
          refine lv_iload hx hb dX0_makePositive_45 (lv_at hl 3 rfl) ?_
          refine g_lald hC hP hms.2.2 (vp_in_nI (by omega) (by decide)) dX0_makePositive_47 ?_
          refine g_topl (y := J (sp + 1) i * sgnF (J (sp + 1)) u) ((congrArg (J3 (sp + 1)) (nI_clamp (by omega))).trans (by rw [hJ3, au_row, gu_eq, h2, gu_eq]; unfold mulR; rw [if_neg (Nat.lt_irrefl i)])) ?_
          refine lv_lconst (v := 0) hx hb dX0_makePositive_48 (by decide) ?_
          refine W.lcmp hx hb dX0_makePositive_49 ?_
          refine lv_if_gt (tgt := 55) hx hb dX0_makePositive_50 (by decide) (fun c50 => ?_) (fun c50 => ?_)
          · have c50 := (lg_cmp_gt _ _).mp c50
            refine lv_iinc (v := nI (i + 1)) (lv' := [(4, .int (nI (i + 1))), (0, .ref k), (1, .int (nI u)), (2, .long (sgnF (J (sp + 1)) u))]) hx hb dX0_makePositive_55 hl (k := 3) rfl (nI_inc _) (by decide) rfl (fun ls hl => ?_)
            refine lv_goto (tgt := 9) hx hb dX0_makePositive_58 (by decide) ?_
            exact ih9 (i + 1) J3 (by omega) (by omega) (fun j h hj => by rcases Nat.lt_succ_iff_lt_or_eq.mp h with h | rfl <;> first | exact h1 j h hj | exact c50 | (rw [hj] at c35; cases c35)) (by rw [hJ3, h2, au_gu, gu_eq, mulR_s]) _ _ hP hS ls (lv_sub hl [1, 2, 3, 0] rfl)
          · have c50 := mt (lg_cmp_gt _ _).mpr c50
            refine lv_iconst (v := nI 0) hx hb dX0_makePositive_53 (by decide) ?_
            refine g_retcz hC hS (b := false) (by decide) ?_ dX0_makePositive_54
            refine Or.inr ⟨rfl, ?_, gu (mulR (J (sp + 1)) (sgnF (J (sp + 1)) u) i) i (mulR (J (sp + 1)) (sgnF (J (sp + 1)) u) i i * sgnF (J (sp + 1)) u), ?_⟩
            · rw [Bool.eq_false_iff]; intro h; exact c50 (posOK_iff.mp h i (by omega) c35)
            · rw [hJ3, h2, au_gu, gu_eq] at hP; exact hP
  exact L9 5 0 J (by omega) (by omega) (fun k h => absurd h (by omega)) (by rw [show mulR (J (sp + 1)) (sgnF (J (sp + 1)) u) 0 = J (sp + 1) from funext fun j => by simp [mulR], gu_self]) _ _ hP hS ls (lv_sub hl [2, 3, 1, 0] rfl)
set_option maxHeartbeats 4000000 in
set_option maxRecDepth 100000 in
theorem c_X2_init (l : Launch) {G : gG} {T : gTy} {I : gI} {J : gJ} {Q : gR} {O : gO} {H : Heap} (hP : gP G T I J Q O H) {x : Nat} (hx0 : T x = (1, 2)) (hsz : H.size = x + 1) : Met l yX2_init (gw yX2_init cX2_init 1 (none)) ({ frames := 1, cells := 1, slots := 4, locals := 20 } : Room) (gPc G H [.ref x]) (gQc (gF T H) (fun r H1 => r = none ∧ H1.size = x + 2 ∧ gP G (gu T (x + 1) (3, 4)) I (gu J (x + 1) (fun _ => 0)) Q (au O x 0 (.ref (x + 1))) H1)) 1 4 (gF T H) := by
  refine g_met [(0, .ref x)] (by decide) rfl (by exact Nat.le_of_ble_eq_true rfl) ?_
  intro p e s m below meth c hC hs ls hl
  have hx := hC.1.1
  have hb := hC.1.2.1
  have hS : va_S (gF T H) s.heap H [] := hs ▸ va_S.rf
  have hTA : ∀ q, (T q).1 ≠ 0 → gF T H q := fun q h => Or.inl h
  have hA : ∀ q, s.heap.size ≤ q → gF T H q := fun q h => Or.inr (hs ▸ h)
  generalize hAe : gF T H = A at hS hTA hA ⊢
  refine lv_aload_n hx hb dX2_init_0 rfl (lv_at hl 0 rfl) ?_
  refine W.objInit hx hb hC.1.2.2.2.1 (hC.1.2.2.2.2 _ q1_35) (hC.1.2.2.2.2 _ q1_15) (hC.1.2.2.2.2 _ q1_16) rfl (by rw [hC.1.2.2.1]; exact hl.1) rfl dX2_init_1 (Nat.le_of_ble_eq_true rfl) (Nat.le_of_ble_eq_true rfl) ?_
  refine W.eq (g2 := F0 m 4 ls []) rfl ?_
  refine lv_aload_n hx hb dX2_init_4 rfl (lv_at hl 0 rfl) ?_
  refine lv_iconst (v := nI 4) hx hb dX2_init_5 (by decide) ?_
  have hSo := hS
  have hPo := hP
  refine g_newJ hC hP hS q1_58 (by decide) (Nat.le_of_ble_eq_true rfl) (Nat.le_of_ble_eq_true rfl) dX2_init_6 (fun H1 hP hS hz2 => ?_)
  obtain ⟨T3, hT3, J4, hJ4, hP⟩ : ∃ T3 : gTy, T3 = gu T H.size (3, 4) ∧ ∃ J4 : gJ, J4 = gu J H.size (fun _ => 0) ∧ gP G T3 I J4 Q O H1 := ⟨_, rfl, _, rfl, hP⟩
  have hTk5 : ∀ a, a < H.size → T3 a = T a := by intro a ha; rw [hT3]; rw [gu_ne _ _ (by omega)]
  have hTA : ∀ q, (T3 q).1 ≠ 0 → A q := by intro q hq; by_cases e : q < H.size; (rw [hTk5 q e] at hq; exact hTA q hq); exact hA q (Nat.le_trans hSo.1 (by omega))
  have ht6 : T3 x = (1, 2) := (hTk5 _ (hPo.lt (by rw [hx0]; decide))).trans hx0
  refine g_putF hC hP hS hTA ht6 rfl inX2 tyX2 tyX2_ok nmX2 0 (by decide) q1_36 rfl rfl (ty := tyX2 0) (by decide) rfl rfl dX2_init_8 (fun H7 locs8 hP hS hz10 => ?_)
  obtain ⟨O9, hO9, hP⟩ : ∃ X : gO, X = au O x 0 (.ref H.size) ∧ gP G T3 I J4 Q X H7 := ⟨_, rfl, hP⟩
  refine W.widen (k := 1) (n := 4) (by omega) (by omega) ?_
  refine g_retcv hC hS ?_ dX2_init_11
  refine ⟨rfl, by omega, ?_⟩
  have e : H.size = x + 1 := hsz
  simp only [*] at hP
  exact hP
