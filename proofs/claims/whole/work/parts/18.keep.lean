/-! ===== keeping the spare mix ===== -/
theorem nI_m1 {i : Nat} (h : i < 2 ^ 31) : nI i - nI 1 < 0 ↔ i = 0 := by
  cases i with
  | zero =>
    have : nI 0 - nI 1 < 0 := by decide
    simp [this]
  | succ j =>
    rw [nI_subn (by omega)]
    exact ⟨fun q => absurd q (nI_pos (by omega)), fun q => absurd q (by omega)⟩
theorem nI_dec2 (x : Int32) : x + Int32.ofInt (-1) = x - nI 1 := by
  have e : Int32.ofInt (-1) = - nI 1 := by decide
  rw [e, Int32.sub_eq_add_neg]
theorem insPost_mono {G : gG} {T : gTy} {I : gI} {J : gJ} {Q : gR} {O : gO} {n n' k cnt fill sp pl : Nat} {ad : Nat → Nat} {H1 : Heap} (h : insPost G T I J Q O n k cnt fill sp ad pl H1) (hn : n' ≤ n) : insPost G T I J Q O n' k cnt fill sp ad pl H1 := by
  obtain ⟨T2, J2, Q2, O2, fill2, sp2, ad2, a1, a2, a3⟩ := h
  exact ⟨T2, J2, Q2, O2, fill2, sp2, ad2, a1, ⟨a2.1, fun q hq => (a2.2 q hq).imp id (fun z => Nat.le_trans hn z)⟩, a3⟩
/-- what keepSpare leaves: nothing new, or the spare mix at its place -/
def keepPost (G : gG) (T : gTy) (I : gI) (J : gJ) (Q : gR) (O : gO) (n k cnt fill sp : Nat) (ad : Nat → Nat) (or : Nat → Int32) (H1 : Heap) : Prop :=
  (∃ j, j < cnt ∧ or j = 0 ∧ gP G T I J Q O H1) ∨ ((∀ j, j < cnt → ¬ or j = 0) ∧ ∃ pl, pl ≤ cnt ∧ (∀ j, j < pl → ¬ or j < 0) ∧ (pl < cnt → or pl < 0) ∧ insPost G T I J Q O n k cnt fill sp ad pl H1)
set_option maxHeartbeats 4000000 in
set_option maxRecDepth 100000 in
theorem c_X0_keepSpare (l : Launch) {G : gG} {T : gTy} {I : gI} {J : gJ} {Q : gR} {O : gO} {H : Heap} (hP : gP G T I J Q O H) {k cnt fill sp u n : Nat} {ad : Nat → Nat} {tt : Nat → Int64} {uu nn : Nat → Nat} {t : Int64} (hco : coG T Q O k) (hcr : coR T Q O k cnt fill sp ad) (hmv : mxV O sp t u n) (hV : ∀ j, j < cnt → mxV O (ad j) (tt j) (uu j) (nn j)) (hcnt : cnt < 69) : Met l yX0_keepSpare (gw yX0_keepSpare cX0_keepSpare 5 (none)) ({ frames := 3, cells := 2, slots := 8, locals := 63 } : Room) (gPc G H [.ref k]) (gQc (gF T H) (fun r H1 => r = none ∧ keepPost G T I J Q O H.size k cnt fill sp ad (fun j => ordM (J (sp + 1)) t (J (ad j + 1)) (tt j)) H1)) 2 8 (gF T H) := by
  refine g_met [(0, .ref k)] (by decide) rfl (by exact Nat.le_of_ble_eq_true rfl) ?_
  intro p e s m below meth c hC hs ls hl
  have hx := hC.1.1
  have hb := hC.1.2.1
  have hS : va_S (gF T H) s.heap H [] := hs ▸ va_S.rf
  have hTA : ∀ q, (T q).1 ≠ 0 → gF T H q := fun q h => Or.inl h
  have hA : ∀ q, s.heap.size ≤ q → gF T H q := fun q h => Or.inr (hs ▸ h)
  generalize hAe : gF T H = A at hS hTA hA ⊢
  have hcr_c := hcr.2.2.1
  have hcr_f := hcr.2.2.2.1
  refine lv_aload_n hx hb dX0_keepSpare_0 rfl (lv_at hl 0 rfl) ?_
  refine g_get hC hP hco.1 rfl inX0 0 (by decide) q1_61 hcr.1 dX0_keepSpare_1 ?_
  refine lv_istore_n (lv' := [(1, .int (nI cnt)), (0, .ref k)]) hx hb dX0_keepSpare_4 rfl hl (by decide) rfl (fun ls hl => ?_)
  refine lv_aload_n hx hb dX0_keepSpare_5 rfl (lv_at hl 1 rfl) ?_
  refine g_get hC hP hco.1 rfl inX0 0 (by decide) q1_61 hcr.1 dX0_keepSpare_6 ?_
  refine lv_iconst (v := nI 1) hx hb dX0_keepSpare_9 (by decide) ?_
  refine lv_isub hx hb dX0_keepSpare_10 ?_
  refine lv_istore_n (lv' := [(2, .int ((nI cnt) - (nI 1))), (1, .int (nI cnt)), (0, .ref k)]) hx hb dX0_keepSpare_11 rfl hl (by decide) rfl (fun ls hl => ?_)
  have L12 : ∀ (n12 : Nat) (i : Nat) (pl : Nat), i < n12 → (i ≤ pl ∧ pl ≤ cnt) → (∀ j, i ≤ j → j < cnt → ¬ ordM (J (sp + 1)) t (J (ad j + 1)) (tt j) = 0) → (∀ j, i ≤ j → j < pl → ¬ ordM (J (sp + 1)) t (J (ad j + 1)) (tt j) < 0) → (pl < cnt → ordM (J (sp + 1)) t (J (ad pl + 1)) (tt pl) < 0) → ∀ (Hl : Heap) (lcl : List Loc), gP G T I J Q O Hl → va_S A s.heap Hl lcl → ∀ ls : Array Slot, lv_has ls 5 [(0, .ref k), (1, .int (nI pl)), (2, .int (nI i - nI 1))] → W p l e ({ frames := 3, cells := 2, slots := 8, locals := 63 } : Room) s m [.ref k].toArray below meth c Hl lcl 0 0 (MQ below (gQc A (fun r H1 => r = none ∧ keepPost G T I J Q O H.size k cnt fill sp ad (fun j => ordM (J (sp + 1)) t (J (ad j + 1)) (tt j)) H1)) [.ref k].toArray s 2 8 A) (F0 m 12 ls []) := by
    intro n12
    induction n12 with
    | zero => intro i pl hn12 hi h1 h2 h3; exact absurd hn12 (by omega)
    | succ n12 ih12 =>
      intro i pl hn12 hi h1 h2 h3 Hl lcl hP hS ls hl
      refine lv_iload_n hx hb dX0_keepSpare_12 rfl (lv_at hl 2 rfl) ?_
      refine lv_if_lt (tgt := 60) hx hb dX0_keepSpare_13 (by decide) (fun c13 => ?_) (fun c13 => ?_)
      · have e0 := (nI_m1 (by omega)).mp c13
        refine lv_aload_n hx hb dX0_keepSpare_60 rfl (lv_at hl 0 rfl) ?_
        refine g_get hC hP hco.1 rfl inX0 0 (by decide) q1_61 hcr.1 dX0_keepSpare_61 ?_
        refine lv_bipush (v := nI 69) hx hb dX0_keepSpare_64 (by decide) ?_
        refine lv_icmp_ge (tgt := 74) hx hb dX0_keepSpare_66 (by decide) (fun c66 => ?_) (fun c66 => ?_)
        · have c66 := (nI_leI (by omega) (by omega)).mp c66
          exact absurd c66 (by omega)
        · have c66 := mt (nI_leI (by omega) (by omega)).mpr c66
          have hAs : H.size ≤ Hl.size := by have := hS.1; rw [hs] at this; exact this
          refine lv_aload_n hx hb dX0_keepSpare_69 rfl (lv_at hl 0 rfl) ?_
          refine lv_iload_n hx hb dX0_keepSpare_70 rfl (lv_at hl 1 rfl) ?_
          refine g_cc (g_rV (As := [.int (nI pl)]) hC hP (c_X0_insertSpare l hP (k := k) (cnt := cnt) (fill := fill) (sp := sp) (pl := pl) (ad := ad) (by first | assumption | omega) (by first | assumption | omega) (by first | assumption | omega) (by first | assumption | omega)) hco.1 rfl ⟨q2_145, q2_142, q2_144, qs_19, q1_3⟩ dd_X0_insertSpare ⟨Nat.le_of_ble_eq_true rfl, Nat.le_of_ble_eq_true rfl, rfl, rfl⟩ hl.1 rfl (Nat.le_of_ble_eq_true rfl) dX0_keepSpare_71 ⟨Nat.le_of_ble_eq_true rfl, Nat.le_of_ble_eq_true rfl⟩) hS (fun q h => h.elim (hTA q) (fun z => hA q (Nat.le_trans hS.1 z))) (fun r5 H1 locs2 hq6 hS hz3 hfr4 => ?_)
          obtain ⟨rfl, hip⟩ := hq6
          refine W.eq (g2 := F0 m 74 ls []) rfl ?_
          refine W.widen (k := 2) (n := 8) (by omega) (by omega) ?_
          refine g_retcv hC hS ?_ dX0_keepSpare_74
          refine ⟨rfl, Or.inr ⟨fun j h => h1 j (by omega) h, pl, by omega, fun j h => h2 j (by omega) h, h3, insPost_mono hip hAs⟩⟩
      · have e1 := mt (nI_m1 (by omega)).mpr c13
        have he : nI i - nI 1 = nI (i - 1) := nI_subn (by omega)
        have hmi := (hcr.2.2.2.2.2.2.1 (i - 1) (by omega)).1
        have hvi := hV (i - 1) (by omega)
        refine lv_aload_n hx hb dX0_keepSpare_16 rfl (lv_at hl 0 rfl) ?_
        refine g_get hC hP hco.1 rfl inX0 1 (by decide) q1_63 hco.2.1 dX0_keepSpare_17 ?_
        refine lv_iload_n hx hb dX0_keepSpare_20 rfl (lv_at hl 2 rfl) ?_
        refine g_topi (y := nI (i - 1)) he ?_
        refine g_aald hC hP hco.2.2.2.1 (vp_in_nI (by omega) (by decide)) (v := .ref (ad (i - 1))) (by rw [nI_clamp (by omega), hcr.2.2.2.2.1 (i - 1) (by omega), if_pos (by omega)]; rfl) dX0_keepSpare_21 ?_
        refine lv_astore_n (lv' := [(3, .ref (ad (i - 1))), (0, .ref k), (1, .int (nI pl)), (2, .int (nI i - nI 1))]) hx hb dX0_keepSpare_22 rfl hl (by decide) rfl (fun ls hl => ?_)
        refine lv_aload_n hx hb dX0_keepSpare_23 rfl (lv_at hl 0 rfl) ?_
        refine lv_ifnonnull (tgt := 31) hx hb dX0_keepSpare_24 (by decide) ?_
        refine lv_aload_n hx hb dX0_keepSpare_31 rfl (lv_at hl 1 rfl) ?_
        refine g_get hC hP hco.1 rfl inX0 2 (by decide) q1_64 hcr.2.1 dX0_keepSpare_32 ?_
        refine lv_aload_n hx hb dX0_keepSpare_35 rfl (lv_at hl 0 rfl) ?_
        refine g_cp (g_rV (As := [.ref (ad (i - 1))]) hC hP (c_X2_orderTo l hP (x := sp) (y := ad (i - 1)) (u := u) (n := n) (u2 := uu (i - 1)) (n2 := nn (i - 1)) (t := t) (t2 := tt (i - 1)) hcr.2.2.2.2.2.1 hmv hmi hvi) hcr.2.2.2.2.2.1.1 rfl ⟨q2_141, q2_138, q2_139, q2_140, q1_4⟩ dd_X2_orderTo ⟨Nat.le_of_ble_eq_true rfl, Nat.le_of_ble_eq_true rfl, rfl, rfl⟩ hl.1 rfl (Nat.le_of_ble_eq_true rfl) dX0_keepSpare_36 ⟨Nat.le_of_ble_eq_true rfl, Nat.le_of_ble_eq_true rfl⟩) ?_
        refine W.eq (g2 := F0 m 39 ls [.int (ordM (J (sp + 1)) t (J ((ad (i - 1)) + 1)) (tt (i - 1)))]) rfl ?_
        refine lv_istore (lv' := [(4, .int (ordM (J (sp + 1)) t (J ((ad (i - 1)) + 1)) (tt (i - 1)))), (3, .ref (ad (i - 1))), (0, .ref k), (1, .int (nI pl)), (2, .int (nI i - nI 1))]) hx hb dX0_keepSpare_39 hl (by decide) rfl (fun ls hl => ?_)
        refine lv_iload hx hb dX0_keepSpare_41 (lv_at hl 0 rfl) ?_
        refine lv_if_ne (tgt := 47) hx hb dX0_keepSpare_43 (by decide) (fun c43 => ?_) (fun c43 => ?_)
        · refine lv_iload hx hb dX0_keepSpare_47 (lv_at hl 0 rfl) ?_
          refine lv_if_ge (tgt := 54) hx hb dX0_keepSpare_49 (by decide) (fun c49 => ?_) (fun c49 => ?_)
          · have c49 := Int32.not_lt.mpr c49
            refine lv_iinc (v := nI (i - 1) - nI 1) (lv' := [(2, .int (nI (i - 1) - nI 1)), (4, .int (ordM (J (sp + 1)) t (J ((ad (i - 1)) + 1)) (tt (i - 1)))), (3, .ref (ad (i - 1))), (0, .ref k), (1, .int (nI pl))]) hx hb dX0_keepSpare_54 hl (k := 4) rfl (by rw [he]; exact nI_dec2 _) (by decide) rfl (fun ls hl => ?_)
            refine lv_goto (tgt := 12) hx hb dX0_keepSpare_57 (by decide) ?_
            exact ih12 (i - 1) pl (by omega) (by omega) (fun j h h4 => by rcases Nat.lt_or_ge j i with e | e; (have e2 : j = i - 1 := (by omega); subst e2; exact c43); exact h1 j e h4) (fun j h h4 => by rcases Nat.lt_or_ge j i with e | e; (have e2 : j = i - 1 := (by omega); subst e2; first | exact c49 | (exfalso; omega)); first | exact h2 j e h4 | (exfalso; omega)) (by first | exact h3 | exact fun _ => c49) _ _ hP hS ls (lv_sub hl [3, 4, 0] rfl)
          · have c49 := Int32.not_le.mp c49
            refine lv_iload_n hx hb dX0_keepSpare_52 rfl (lv_at hl 4 rfl) ?_
            refine g_topi (y := nI (i - 1)) he ?_
            refine lv_istore_n (lv' := [(1, .int (nI (i - 1))), (4, .int (ordM (J (sp + 1)) t (J ((ad (i - 1)) + 1)) (tt (i - 1)))), (3, .ref (ad (i - 1))), (0, .ref k), (2, .int (nI i - nI 1))]) hx hb dX0_keepSpare_53 rfl hl (by decide) rfl (fun ls hl => ?_)
            refine lv_iinc (v := nI (i - 1) - nI 1) (lv' := [(2, .int (nI (i - 1) - nI 1)), (1, .int (nI (i - 1))), (4, .int (ordM (J (sp + 1)) t (J ((ad (i - 1)) + 1)) (tt (i - 1)))), (3, .ref (ad (i - 1))), (0, .ref k)]) hx hb dX0_keepSpare_54 hl (k := 4) rfl (by rw [he]; exact nI_dec2 _) (by decide) rfl (fun ls hl => ?_)
            refine lv_goto (tgt := 12) hx hb dX0_keepSpare_57 (by decide) ?_
            exact ih12 (i - 1) (i - 1) (by omega) (by omega) (fun j h h4 => by rcases Nat.lt_or_ge j i with e | e; (have e2 : j = i - 1 := (by omega); subst e2; exact c43); exact h1 j e h4) (fun j h h4 => by rcases Nat.lt_or_ge j i with e | e; (have e2 : j = i - 1 := (by omega); subst e2; first | exact c49 | (exfalso; omega)); first | exact h2 j e h4 | (exfalso; omega)) (by first | exact h3 | exact fun _ => c49) _ _ hP hS ls (lv_sub hl [4, 1, 0] rfl)
        · refine W.widen (k := 2) (n := 8) (by omega) (by omega) ?_
          refine g_retcv hC hS ?_ dX0_keepSpare_46
          refine ⟨rfl, Or.inl ⟨i - 1, by omega, c43, hP⟩⟩
  exact L12 (cnt + 1) cnt cnt (by omega) (by omega) (fun j h h2 => absurd h (by omega)) (fun j h h2 => absurd h (by omega)) (fun h => absurd h (by omega)) _ _ hP hS ls (lv_sub hl [2, 1, 0] rfl)
