/-! ===== GameTables() ===== -/
def gs0 : GS := (1, 1, fun _ => 0, fun _ => 0, fun _ => 0, fun _ => 0, fun _ => 0)
def c0 : CL := (0, fun _ => (fun _ => 0, 0, 0, 0))
theorem coS_new {T : gTy} {J : gJ} {Q : gR} {O : gO} {k : Nat} (h : coR T Q O k 0 0 (k + 2) (fun j => j)) (ht : ∀ q, k ≤ q → q < k + 8 → (T q).1 ≠ 0) : coS T J Q O k c0 (fun q => k ≤ q ∧ q < k + 8 ∧ q ≠ k + 4) := ⟨0, k + 2, fun j => j, h, fun j hj => absurd hj (Nat.not_lt_zero j), fun q hq => ht q hq.1 hq.2.1, by omega, by omega, fun j hj => absurd hj (Nat.not_lt_zero j)⟩
theorem gt_new {G : gG} {T T1 T3 : gTy} {I I1 I3 : gI} {J J1 J3 : gJ} {Q Q1 Q3 : gR} {O O1 O3 : gO} {g : Nat} {VP VP2 VD : Nat → Value} {H1 : Heap} (hg : T g = (1, 4)) (hlt : ∀ q, (T q).1 ≠ 0 → q < g + 1) (h1 : pNew (gu T (g + 1) (1, 3)) T1 I I1 J J1 Q Q1 (gu O (g + 1) VP) O1 (g + 1)) (h3 : pNew (gu T1 (g + 14) (1, 3)) T3 I1 I3 J1 J3 Q1 Q3 (gu (au O1 g 0 (.ref (g + 1))) (g + 14) VP2) O3 (g + 14)) (hP : gP G (gu (gu T3 (g + 27) (1, 1)) (g + 28) (2, 7)) (gu I3 (g + 28) (fun _ => 0)) J3 Q3 (au (au (au (gu (au O3 g 1 (.ref (g + 14))) (g + 27) VD) g 2 (.ref (g + 27))) g 3 (.ref (g + 28))) g 4 (.int (nI 0))) H1) : gtG G T (g + 1) g gs0 H1 := by
  obtain ⟨a1, a2, a3, a4, a5, a6, a7, a8, a9⟩ := h1
  obtain ⟨d1, d2, d3, d4, d5, d6, d7, d8, d9⟩ := h3
  generalize hT2 : gu (gu T3 (g + 27) (1, 1)) (g + 28) (2, 7) = T2 at hP
  generalize hI2 : gu I3 (g + 28) (fun _ => 0) = I2 at hP
  generalize hO2 : au (au (au (gu (au O3 g 1 (.ref (g + 14))) (g + 27) VD) g 2 (.ref (g + 27))) g 3 (.ref (g + 28))) g 4 (.int (nI 0)) = O2 at hP
  have tq : ∀ q, q < g + 27 → T2 q = T3 q := fun q hq => by rw [← hT2, gu_ne _ _ (by omega), gu_ne _ _ (by omega)]
  have tq1 : ∀ q, q < g + 14 → T2 q = T1 q := fun q hq => by rw [tq q (by omega), d1 q (by omega), gu_ne _ _ (by omega)]
  have oq : ∀ q, q ≠ g → q < g + 27 → O2 q = O3 q := fun q h h2 => by rw [← hO2, au_ne _ _ _ h, au_ne _ _ _ h, au_ne _ _ _ h, gu_ne _ _ (by omega), au_ne _ _ _ h]
  have oq1 : ∀ q, q ≠ g → q < g + 14 → O2 q = O1 q := fun q h h2 => by rw [oq q h (by omega), (d2 q h2).2.2.2, gu_ne _ _ (by omega), au_ne _ _ _ h]
  have t1z : ∀ q, (T1 q).1 ≠ 0 → q < g + 14 := fun q hq => by
    by_cases e : q < g + 14
    · exact e
    · rw [a1 q (by omega), gu_ne _ _ (by omega)] at hq
      have := hlt q hq
      omega
  have t3z : ∀ q, (T3 q).1 ≠ 0 → q < g + 27 := fun q hq => by
    by_cases e : q < g + 27
    · exact e
    · rw [d1 q (by omega), gu_ne _ _ (by omega)] at hq
      have := t1z q hq
      omega
  have e1 : ∀ q, (T1 q).1 ≠ 0 → T2 q = T1 q := fun q hq => tq1 q (t1z q hq)
  have e3 : ∀ q, (T3 q).1 ≠ 0 → T2 q = T3 q := fun q hq => tq q (t3z q hq)
  have o30 : O3 g 0 = .ref (g + 1) := by rw [(d2 g (by omega)).2.2.2, gu_ne _ _ (by omega), au_row, gu_eq]
  have tg : T2 g = (1, 4) := by rw [tq1 g (by omega), a1 g (by omega), gu_ne _ _ (by omega)]; exact hg
  have i1 : ∀ q, q < g + 14 → I2 q = I1 q := fun q hq => by rw [← hI2, gu_ne _ _ (by omega), (d2 q hq).1]
  have i3 : ∀ q, q < g + 28 → I2 q = I3 q := fun q hq => by rw [← hI2, gu_ne _ _ (by omega)]
  refine ⟨T2, I2, J3, Q3, O2, g + 1, g + 14, false, c0, c0, fun q => g + 1 + 1 ≤ q ∧ q < g + 1 + 1 + 8 ∧ q ≠ g + 1 + 1 + 4, fun q => g + 14 + 1 ≤ q ∧ q < g + 14 + 1 + 8 ∧ q ≠ g + 14 + 1 + 4, hP, fun q hq => ?_, ⟨tg, ?_, ?_, ?_, ?_, ?_, ?_, ?_, isPl_ext a3 e1 (oq1 _ (by omega) (by omega)), isPl_ext d3 e3 (oq _ (by omega) (by omega)), isMx_ext a4 e1 (oq1 _ (by omega) (by omega)), isMx_ext d4 e3 (oq _ (by omega) (by omega)), coG_ext a5 e1 (by rw [oq1 _ (by omega) (by omega)]) (by rw [oq1 _ (by omega) (by omega)]) (d2 _ (by omega)).2.2.1, coG_ext d5 e3 (by rw [oq _ (by omega) (by omega)]) (by rw [oq _ (by omega) (by omega)]) rfl, coS_keep (coS_new a6 (fun q h h2 => a7 q (by omega) (by omega))) e1 (fun q hq => ⟨(d2 q (by omega)).2.1, (d2 q (by omega)).2.2.1, oq1 q (by omega) (by omega)⟩), coS_keep (coS_new d6 (fun q h h2 => d7 q (by omega) (by omega))) e3 (fun q hq => ⟨rfl, rfl, oq q (by omega) (by omega)⟩), Or.inl ⟨rfl, rfl⟩, ⟨fun q h h2 => by omega, fun q h h2 => ?_, fun q h h2 => ?_⟩⟩, ckOK_f, ?_, ?_, ?_, ?_, ?_⟩
  · by_cases e : q < g + 1
    · left
      rw [tq1 q (by omega), a1 q (by omega), gu_ne _ _ (by omega)] at hq
      exact hq
    · exact Or.inr (by omega)
  · rw [← hO2]; simp [au, gu, o30]
  · rw [← hO2]; simp [au, gu]
  · rw [← hO2]; simp [au, gu]
  · rw [← hO2]; simp [au, gu]
  · rw [← hO2]; simp [au, gu]; rfl
  · rw [← hT2, gu_eq]
  · rw [← hT2, gu_ne _ _ (by omega), gu_eq]
  · unfold statC at h2; omega
  · unfold statC at h2; omega
  · rw [i1 _ (by omega)]; exact a8
  · rw [i3 _ (by omega)]; exact d8
  · rw [i1 _ (by omega)]; exact a9
  · rw [i3 _ (by omega)]; exact d9
  · rw [← hI2, gu_eq]; rfl
set_option maxHeartbeats 4000000 in
set_option maxRecDepth 100000 in
theorem c_X4_init (l : Launch) {G : gG} {T : gTy} {I : gI} {J : gJ} {Q : gR} {O : gO} {H : Heap} (hP : gP G T I J Q O H) {g : Nat} (hx0 : T g = (1, 4)) (hsz : H.size = g + 1) : Met l yX4_init (gw yX4_init cX4_init 1 (none)) ({ frames := 4, cells := 28, slots := 700, locals := 80 } : Room) (gPc G H [.ref g]) (gQc (gF T H) (fun r H1 => r = none ∧ H1.size = g + 29 ∧ gtG G T H.size g gs0 H1)) 28 700 (gF T H) := by
  refine g_met [(0, .ref g)] (by decide) rfl (by exact Nat.le_of_ble_eq_true rfl) ?_
  intro p e s m below meth c hC hs ls hl
  have hx := hC.1.1
  have hb := hC.1.2.1
  have hS : va_S (gF T H) s.heap H [] := hs ▸ va_S.rf
  have hTA : ∀ q, (T q).1 ≠ 0 → gF T H q := fun q h => Or.inl h
  have hA : ∀ q, s.heap.size ≤ q → gF T H q := fun q h => Or.inr (hs ▸ h)
  generalize hAe : gF T H = A at hS hTA hA ⊢
  have hP0 := hP
  refine lv_aload_n hx hb dX4_init_0 rfl (lv_at hl 0 rfl) ?_
  refine W.objInit hx hb hC.1.2.2.2.1 (hC.1.2.2.2.2 _ q1_14) (hC.1.2.2.2.2 _ q1_15) (hC.1.2.2.2.2 _ q1_16) rfl (by rw [hC.1.2.2.1]; exact hl.1) rfl dX4_init_1 (Nat.le_of_ble_eq_true rfl) (Nat.le_of_ble_eq_true rfl) ?_
  refine W.eq (g2 := F0 m 4 ls []) rfl ?_
  refine lv_aload_n hx hb dX4_init_4 rfl (lv_at hl 0 rfl) ?_
  have hSo := hS
  have hPo := hP
  refine g_new hC hP hS (ci := 3) rfl inX3 tyX3 tyX3_ok ⟨q1_17, q1_18, q1_2⟩ (fun k => match k with | 0 => .int 0 | 1 => .null | 2 => .null | 3 => .null | 4 => .null | _ => .null) (fun j hj => by rcases (show j = 0 ∨ j = 1 ∨ j = 2 ∨ j = 3 ∨ j = 4 by omega) with rfl | rfl | rfl | rfl | rfl <;> rfl) (Nat.le_of_ble_eq_true rfl) (Nat.le_of_ble_eq_true rfl) dX4_init_5 (fun H1 hP hS hz2 => ?_)
  obtain ⟨T3, hT3, O4, hO4, hP⟩ : ∃ T3 : gTy, T3 = gu T H.size (1, 3) ∧ ∃ O4 : gO, O4 = gu O H.size (fun k => match k with | 0 => .int 0 | 1 => .null | 2 => .null | 3 => .null | 4 => .null | _ => .null) ∧ gP G T3 I J Q O4 H1 := ⟨_, rfl, _, rfl, hP⟩
  have hTk5 : ∀ a, a < H.size → T3 a = T a := by intro a ha; rw [hT3]; rw [gu_ne _ _ (by omega)]
  have hTA : ∀ q, (T3 q).1 ≠ 0 → A q := by intro q hq; by_cases e : q < H.size; (rw [hTk5 q e] at hq; exact hTA q hq); exact hA q (Nat.le_trans hSo.1 (by omega))
  have ht6 : T3 g = (1, 4) := (hTk5 _ (hPo.lt (by rw [hx0]; decide))).trans hx0
  have ht7 : T3 H.size = (1, 3) := (by rw [hT3]; exact gu_eq _ _ _)
  have ho8 : O4 H.size 0 = .int (nI 0) := by rw [hO4, gu_eq]; rfl
  have ho9 : O4 H.size 1 = .null := by rw [hO4, gu_eq]; rfl
  have ho10 : O4 H.size 2 = .null := by rw [hO4, gu_eq]; rfl
  have ho11 : O4 H.size 3 = .null := by rw [hO4, gu_eq]; rfl
  have ho12 : O4 H.size 4 = .null := by rw [hO4, gu_eq]; rfl
  refine lv_dup hx hb dX4_init_8 rfl ?_
  have hPo := hP
  have hSo := hS
  refine g_cc (g_rIN (As := []) hC (c_X3_init l hP (b := H.size) (by first | assumption | omega) (by first | assumption | omega)) ⟨q1_21, List.mem_of_getElem? (i := 0) rfl, q1_20, q1_2⟩ rfl dd_X3_init ⟨Nat.le_of_ble_eq_true rfl, Nat.le_of_ble_eq_true rfl, rfl, rfl⟩ hl.1 rfl (Nat.le_of_ble_eq_true rfl) dX4_init_9 ⟨Nat.le_of_ble_eq_true rfl, Nat.le_of_ble_eq_true rfl⟩) hS (fun q h => h.elim (hTA q) (fun z => hA q (Nat.le_trans hS.1 z))) (fun r17 H13 locs14 hq18 hS hz15 hfr16 => ?_)
  obtain ⟨rfl, hzz24, T19, I20, J21, Q22, O23, hP, hpn0⟩ := hq18
  have hTk : ∀ a, a < H1.size → T19 a = T3 a := fun a ha => hpn0.1 a (Or.inl (by omega))
  have hTA : ∀ q, (T19 q).1 ≠ 0 → A q := by intro q hq; by_cases e : q < H1.size; (rw [hTk q e] at hq; exact hTA q hq); exact hA q (Nat.le_trans hSo.1 (by omega))
  have ht25 : T19 g = (1, 4) := (hTk _ (hPo.lt (by rw [ht6]; decide))).trans ht6
  have ht26 : T19 H.size = (1, 3) := (hTk _ (hPo.lt (by rw [ht7]; decide))).trans ht7
  refine W.eq (g2 := F0 m 12 ls [.ref H.size, .ref g]) rfl ?_
  refine g_put hC hP hS hTA ht25 rfl inX4 tyX4 tyX4_ok nmX4 0 (by decide) q1_115 rfl (ty := tyX4 0) (by decide) rfl rfl dX4_init_12 (fun H27 locs28 hP hS hz30 => ?_)
  obtain ⟨O29, hO29, hP⟩ : ∃ X : gO, X = au O23 g 0 (.ref H.size) ∧ gP G T19 I20 J21 Q22 X H27 := ⟨_, rfl, hP⟩
  refine lv_aload_n hx hb dX4_init_15 rfl (lv_at hl 0 rfl) ?_
  have hSo := hS
  have hPo := hP
  refine g_new hC hP hS (ci := 3) rfl inX3 tyX3 tyX3_ok ⟨q1_17, q1_18, q1_2⟩ (fun k => match k with | 0 => .int 0 | 1 => .null | 2 => .null | 3 => .null | 4 => .null | _ => .null) (fun j hj => by rcases (show j = 0 ∨ j = 1 ∨ j = 2 ∨ j = 3 ∨ j = 4 by omega) with rfl | rfl | rfl | rfl | rfl <;> rfl) (Nat.le_of_ble_eq_true rfl) (Nat.le_of_ble_eq_true rfl) dX4_init_16 (fun H31 hP hS hz32 => ?_)
  obtain ⟨T33, hT33, O34, hO34, hP⟩ : ∃ T33 : gTy, T33 = gu T19 H27.size (1, 3) ∧ ∃ O34 : gO, O34 = gu O29 H27.size (fun k => match k with | 0 => .int 0 | 1 => .null | 2 => .null | 3 => .null | 4 => .null | _ => .null) ∧ gP G T33 I20 J21 Q22 O34 H31 := ⟨_, rfl, _, rfl, hP⟩
  have hTk35 : ∀ a, a < H27.size → T33 a = T19 a := by intro a ha; rw [hT33]; rw [gu_ne _ _ (by omega)]
  have hTA : ∀ q, (T33 q).1 ≠ 0 → A q := by intro q hq; by_cases e : q < H27.size; (rw [hTk35 q e] at hq; exact hTA q hq); exact hA q (Nat.le_trans hSo.1 (by omega))
  have ht36 : T33 g = (1, 4) := (hTk35 _ (hPo.lt (by rw [ht25]; decide))).trans ht25
  have ht37 : T33 H.size = (1, 3) := (hTk35 _ (hPo.lt (by rw [ht26]; decide))).trans ht26
  have ht38 : T33 H27.size = (1, 3) := (by rw [hT33]; exact gu_eq _ _ _)
  have ho39 : O34 H27.size 0 = .int (nI 0) := by rw [hO34, gu_eq]; rfl
  have ho40 : O34 H27.size 1 = .null := by rw [hO34, gu_eq]; rfl
  have ho41 : O34 H27.size 2 = .null := by rw [hO34, gu_eq]; rfl
  have ho42 : O34 H27.size 3 = .null := by rw [hO34, gu_eq]; rfl
  have ho43 : O34 H27.size 4 = .null := by rw [hO34, gu_eq]; rfl
  refine lv_dup hx hb dX4_init_19 rfl ?_
  have hPo := hP
  have hSo := hS
  refine g_cc (g_rIN (As := []) hC (c_X3_init l hP (b := H27.size) (by first | assumption | omega) (by first | assumption | omega)) ⟨q1_21, List.mem_of_getElem? (i := 0) rfl, q1_20, q1_2⟩ rfl dd_X3_init ⟨Nat.le_of_ble_eq_true rfl, Nat.le_of_ble_eq_true rfl, rfl, rfl⟩ hl.1 rfl (Nat.le_of_ble_eq_true rfl) dX4_init_20 ⟨Nat.le_of_ble_eq_true rfl, Nat.le_of_ble_eq_true rfl⟩) hS (fun q h => h.elim (hTA q) (fun z => hA q (Nat.le_trans hS.1 z))) (fun r48 H44 locs45 hq49 hS hz46 hfr47 => ?_)
  obtain ⟨rfl, hzz55, T50, I51, J52, Q53, O54, hP, hpn1⟩ := hq49
  have hTk : ∀ a, a < H31.size → T50 a = T33 a := fun a ha => hpn1.1 a (Or.inl (by omega))
  have hTA : ∀ q, (T50 q).1 ≠ 0 → A q := by intro q hq; by_cases e : q < H31.size; (rw [hTk q e] at hq; exact hTA q hq); exact hA q (Nat.le_trans hSo.1 (by omega))
  have ht56 : T50 g = (1, 4) := (hTk _ (hPo.lt (by rw [ht36]; decide))).trans ht36
  have ht57 : T50 H.size = (1, 3) := (hTk _ (hPo.lt (by rw [ht37]; decide))).trans ht37
  have ht58 : T50 H27.size = (1, 3) := (hTk _ (hPo.lt (by rw [ht38]; decide))).trans ht38
  refine W.eq (g2 := F0 m 23 ls [.ref H27.size, .ref g]) rfl ?_
  refine g_put hC hP hS hTA ht56 rfl inX4 tyX4 tyX4_ok nmX4 1 (by decide) q1_116 rfl (ty := tyX4 1) (by decide) rfl rfl dX4_init_23 (fun H59 locs60 hP hS hz62 => ?_)
  obtain ⟨O61, hO61, hP⟩ : ∃ X : gO, X = au O54 g 1 (.ref H27.size) ∧ gP G T50 I51 J52 Q53 X H59 := ⟨_, rfl, hP⟩
  refine lv_aload_n hx hb dX4_init_26 rfl (lv_at hl 0 rfl) ?_
  have hSo := hS
  have hPo := hP
  refine g_new hC hP hS (ci := 1) rfl inX1 tyX1 tyX1_ok ⟨q1_96, q1_97, q1_5⟩ (fun k => match k with | 0 => .int 0 | 1 => .int 0 | 2 => .int 0 | _ => .null) (fun j hj => by rcases (show j = 0 ∨ j = 1 ∨ j = 2 by omega) with rfl | rfl | rfl <;> rfl) (Nat.le_of_ble_eq_true rfl) (Nat.le_of_ble_eq_true rfl) dX4_init_27 (fun H63 hP hS hz64 => ?_)
  obtain ⟨T65, hT65, O66, hO66, hP⟩ : ∃ T65 : gTy, T65 = gu T50 H59.size (1, 1) ∧ ∃ O66 : gO, O66 = gu O61 H59.size (fun k => match k with | 0 => .int 0 | 1 => .int 0 | 2 => .int 0 | _ => .null) ∧ gP G T65 I51 J52 Q53 O66 H63 := ⟨_, rfl, _, rfl, hP⟩
  have hTk67 : ∀ a, a < H59.size → T65 a = T50 a := by intro a ha; rw [hT65]; rw [gu_ne _ _ (by omega)]
  have hTA : ∀ q, (T65 q).1 ≠ 0 → A q := by intro q hq; by_cases e : q < H59.size; (rw [hTk67 q e] at hq; exact hTA q hq); exact hA q (Nat.le_trans hSo.1 (by omega))
  have ht68 : T65 g = (1, 4) := (hTk67 _ (hPo.lt (by rw [ht56]; decide))).trans ht56
  have ht69 : T65 H.size = (1, 3) := (hTk67 _ (hPo.lt (by rw [ht57]; decide))).trans ht57
  have ht70 : T65 H27.size = (1, 3) := (hTk67 _ (hPo.lt (by rw [ht58]; decide))).trans ht58
  have ht71 : T65 H59.size = (1, 1) := (by rw [hT65]; exact gu_eq _ _ _)
  have ho72 : O66 H59.size 0 = .int (nI 0) := by rw [hO66, gu_eq]; rfl
  have ho73 : O66 H59.size 1 = .int (nI 0) := by rw [hO66, gu_eq]; rfl
  have ho74 : O66 H59.size 2 = .int (nI 0) := by rw [hO66, gu_eq]; rfl
  refine lv_dup hx hb dX4_init_30 rfl ?_
  refine g_cc (g_rIN (As := []) hC (c_X1_init l hP (x := H59.size) (by first | assumption | omega)) ⟨q1_100, List.mem_of_getElem? (i := 4) rfl, q1_99, q1_5⟩ rfl dd_X1_init ⟨Nat.le_of_ble_eq_true rfl, Nat.le_of_ble_eq_true rfl, rfl, rfl⟩ hl.1 rfl (Nat.le_of_ble_eq_true rfl) dX4_init_31 ⟨Nat.le_of_ble_eq_true rfl, Nat.le_of_ble_eq_true rfl⟩) hS (fun q h => h.elim (hTA q) (fun z => hA q (Nat.le_trans hS.1 z))) (fun r79 H75 locs76 hq80 hS hz77 hfr78 => ?_)
  obtain ⟨rfl, hzz81, hP⟩ := hq80
  refine W.eq (g2 := F0 m 34 ls [.ref H59.size, .ref g]) rfl ?_
  refine g_putF hC hP hS hTA ht68 rfl inX4 tyX4 tyX4_ok nmX4 2 (by decide) q1_117 rfl rfl (ty := tyX4 2) (by decide) rfl rfl dX4_init_34 (fun H82 locs83 hP hS hz85 => ?_)
  obtain ⟨O84, hO84, hP⟩ : ∃ X : gO, X = au O66 g 2 (.ref H59.size) ∧ gP G T65 I51 J52 Q53 X H82 := ⟨_, rfl, hP⟩
  refine lv_aload_n hx hb dX4_init_37 rfl (lv_at hl 0 rfl) ?_
  refine lv_bipush (v := nI 7) hx hb dX4_init_38 (by decide) ?_
  have hSo := hS
  have hPo := hP
  refine g_newI hC hP hS q1_95 (by decide) (Nat.le_of_ble_eq_true rfl) (Nat.le_of_ble_eq_true rfl) dX4_init_40 (fun H86 hP hS hz87 => ?_)
  obtain ⟨T88, hT88, I89, hI89, hP⟩ : ∃ T88 : gTy, T88 = gu T65 H82.size (2, 7) ∧ ∃ I89 : gI, I89 = gu I51 H82.size (fun _ => 0) ∧ gP G T88 I89 J52 Q53 O84 H86 := ⟨_, rfl, _, rfl, hP⟩
  have hTk90 : ∀ a, a < H82.size → T88 a = T65 a := by intro a ha; rw [hT88]; rw [gu_ne _ _ (by omega)]
  have hTA : ∀ q, (T88 q).1 ≠ 0 → A q := by intro q hq; by_cases e : q < H82.size; (rw [hTk90 q e] at hq; exact hTA q hq); exact hA q (Nat.le_trans hSo.1 (by omega))
  have ht91 : T88 g = (1, 4) := (hTk90 _ (hPo.lt (by rw [ht68]; decide))).trans ht68
  have ht92 : T88 H.size = (1, 3) := (hTk90 _ (hPo.lt (by rw [ht69]; decide))).trans ht69
  have ht93 : T88 H27.size = (1, 3) := (hTk90 _ (hPo.lt (by rw [ht70]; decide))).trans ht70
  have ht94 : T88 H59.size = (1, 1) := (hTk90 _ (hPo.lt (by rw [ht71]; decide))).trans ht71
  have ht95 : T88 H82.size = (2, 7) := (by rw [hT88]; exact gu_eq _ _ _)
  refine g_putF hC hP hS hTA ht91 rfl inX4 tyX4 tyX4_ok nmX4 3 (by decide) q1_118 rfl rfl (ty := tyX4 3) (by decide) rfl rfl dX4_init_42 (fun H96 locs97 hP hS hz99 => ?_)
  obtain ⟨O98, hO98, hP⟩ : ∃ X : gO, X = au O84 g 3 (.ref H82.size) ∧ gP G T88 I89 J52 Q53 X H96 := ⟨_, rfl, hP⟩
  refine lv_aload_n hx hb dX4_init_45 rfl (lv_at hl 0 rfl) ?_
  refine lv_iconst (v := nI 0) hx hb dX4_init_46 (by decide) ?_
  refine g_put hC hP hS hTA ht91 rfl inX4 tyX4 tyX4_ok nmX4 4 (by decide) q1_119 rfl (ty := tyX4 4) (by decide) rfl rfl dX4_init_47 (fun H100 locs101 hP hS hz103 => ?_)
  obtain ⟨O102, hO102, hP⟩ : ∃ X : gO, X = au O98 g 4 (.int (nI 0)) ∧ gP G T88 I89 J52 Q53 X H100 := ⟨_, rfl, hP⟩
  refine W.widen (k := 28) (n := 700) (by omega) (by omega) ?_
  refine g_retcv hC hS ?_ dX4_init_50
  refine ⟨rfl, by omega, ?_⟩
  have hlt : ∀ q, (T q).1 ≠ 0 → q < g + 1 := fun q hq => hsz ▸ hP0.lt hq
  simp only [hT3, hO4, hO29, hT33, hO34, hO61, hT65, hO66, hO84, hT88, hI89, hO98, hO102, hz2, hz15, hzz24, hz30, hz32, hz46, hzz55, hz62, hz64, hz77, hzz81, hz85, hz87, hz99, hz103, hsz] at hpn0 hpn1 hP
  rw [hsz]
  exact gt_new hx0 hlt hpn0 hpn1 hP
