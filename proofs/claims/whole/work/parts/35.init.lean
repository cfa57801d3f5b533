/-! ===== constructors ===== -/
/-- what Corners() leaves: the object at k, its cells after it -/
def cNew (T T2 : gTy) (J J2 : gJ) (Q Q2 : gR) (O O2 : gO) (k : Nat) : Prop := (∀ q, q < k + 1 ∨ k + 8 ≤ q → T2 q = T q) ∧ (∀ q, q < k → J2 q = J q ∧ Q2 q = Q q ∧ O2 q = O q) ∧ (T2 (k + 1) = (4, 69) ∧ T2 (k + 2) = (1, 2) ∧ T2 (k + 3) = (3, 4) ∧ T2 (k + 4) = (5, 3) ∧ T2 (k + 5) = (3, 4) ∧ T2 (k + 6) = (3, 4) ∧ T2 (k + 7) = (3, 4)) ∧ (O2 k 0 = O k 0 ∧ O2 k 1 = .ref (k + 1) ∧ O2 k 2 = .ref (k + 2) ∧ O2 k 3 = .ref (k + 4) ∧ O2 (k + 2) 0 = .ref (k + 3)) ∧ (Q2 (k + 1) = fun _ => none) ∧ (Q2 (k + 4) = fun j => if j < 3 then some (k + 5 + j) else none)
theorem cNew_of {T : gTy} {J : gJ} {Q : gR} {O : gO} {k : Nat} {Vf : Nat → Value} : cNew T (mnT (gu (gu (gu T (k + 1) (4, 69)) (k + 2) (1, 2)) (k + 3) (3, 4)) (k + 4)) J (mnJ (gu J (k + 3) (fun _ => 0)) (k + 4)) Q (mnQ (gu Q (k + 1) (fun _ => none)) (k + 4)) O (au (au (au (gu (au O k 1 (.ref (k + 1))) (k + 2) Vf) (k + 2) 0 (.ref (k + 3))) k 2 (.ref (k + 2))) k 3 (.ref (k + 4))) k := by
  unfold cNew
  simp only [gu, au, mnT, mnJ, mnQ]
  refine ⟨fun q hq => ?_, fun q hq => ⟨?_, ?_, ?_⟩, ⟨?_, ?_, ?_, ?_, ?_, ?_, ?_⟩, ⟨?_, ?_, ?_, ?_, ?_⟩, ?_, ?_⟩
  all_goals ((repeat' split) <;> first | rfl | (exfalso; omega) | exact absurd trivial (by assumption) | (simp_all; done) | (exfalso; simp_all; omega))
set_option maxHeartbeats 4000000 in
set_option maxRecDepth 100000 in
theorem c_X0_init (l : Launch) {G : gG} {T : gTy} {I : gI} {J : gJ} {Q : gR} {O : gO} {H : Heap} (hP : gP G T I J Q O H) {k : Nat} (hx0 : T k = (1, 0)) (hsz : H.size = k + 1) : Met l yX0_init (gw yX0_init cX0_init 1 (none)) ({ frames := 2, cells := 7, slots := 200, locals := 40 } : Room) (gPc G H [.ref k]) (gQc (gF T H) (fun r H1 => r = none ∧ H1.size = k + 8 ∧ ∃ (T2 : gTy) (J2 : gJ) (Q2 : gR) (O2 : gO), gP G T2 I J2 Q2 O2 H1 ∧ cNew T T2 J J2 Q Q2 O O2 k)) 7 200 (gF T H) := by
  refine g_met [(0, .ref k)] (by decide) rfl (by exact Nat.le_of_ble_eq_true rfl) ?_
  intro p e s m below meth c hC hs ls hl
  have hx := hC.1.1
  have hb := hC.1.2.1
  have hS : va_S (gF T H) s.heap H [] := hs ▸ va_S.rf
  have hTA : ∀ q, (T q).1 ≠ 0 → gF T H q := fun q h => Or.inl h
  have hA : ∀ q, s.heap.size ≤ q → gF T H q := fun q h => Or.inr (hs ▸ h)
  generalize hAe : gF T H = A at hS hTA hA ⊢
  refine lv_aload_n hx hb dX0_init_0 rfl (lv_at hl 0 rfl) ?_
  refine W.objInit hx hb hC.1.2.2.2.1 (hC.1.2.2.2.2 _ q1_28) (hC.1.2.2.2.2 _ q1_15) (hC.1.2.2.2.2 _ q1_16) rfl (by rw [hC.1.2.2.1]; exact hl.1) rfl dX0_init_1 (Nat.le_of_ble_eq_true rfl) (Nat.le_of_ble_eq_true rfl) ?_
  refine W.eq (g2 := F0 m 4 ls []) rfl ?_
  refine lv_aload_n hx hb dX0_init_4 rfl (lv_at hl 0 rfl) ?_
  refine lv_bipush (v := nI 69) hx hb dX0_init_5 (by decide) ?_
  have hSo := hS
  have hPo := hP
  refine g_newQ hC hP hS q1_29 (by decide) (Nat.le_of_ble_eq_true rfl) (Nat.le_of_ble_eq_true rfl) dX0_init_7 (fun H1 hP hS hz2 => ?_)
  obtain ⟨T3, hT3, Q4, hQ4, hP⟩ : ∃ T3 : gTy, T3 = gu T H.size (4, 69) ∧ ∃ Q4 : gR, Q4 = gu Q H.size (fun _ => none) ∧ gP G T3 I J Q4 O H1 := ⟨_, rfl, _, rfl, hP⟩
  have hTk5 : ∀ a, a < H.size → T3 a = T a := by intro a ha; rw [hT3]; rw [gu_ne _ _ (by omega)]
  have hTA : ∀ q, (T3 q).1 ≠ 0 → A q := by intro q hq; by_cases e : q < H.size; (rw [hTk5 q e] at hq; exact hTA q hq); exact hA q (Nat.le_trans hSo.1 (by omega))
  have ht6 : T3 k = (1, 0) := (hTk5 _ (hPo.lt (by rw [hx0]; decide))).trans hx0
  have ht7 : T3 H.size = (4, 69) := (by rw [hT3]; exact gu_eq _ _ _)
  refine g_putF hC hP hS hTA ht6 rfl inX0 tyX0 tyX0_ok nmX0 1 (by decide) q1_63 rfl rfl (ty := tyX0 1) (by decide) rfl rfl dX0_init_10 (fun H8 locs9 hP hS hz11 => ?_)
  obtain ⟨O10, hO10, hP⟩ : ∃ X : gO, X = au O k 1 (.ref H.size) ∧ gP G T3 I J Q4 X H8 := ⟨_, rfl, hP⟩
  refine lv_aload_n hx hb dX0_init_13 rfl (lv_at hl 0 rfl) ?_
  have hSo := hS
  have hPo := hP
  refine g_new hC hP hS (ci := 2) rfl inX2 tyX2 tyX2_ok ⟨q1_29, q1_31, q1_4⟩ (fun k => match k with | 0 => .null | 1 => .long 0 | 2 => .int 0 | 3 => .int 0 | _ => .null) (fun j hj => by rcases (show j = 0 ∨ j = 1 ∨ j = 2 ∨ j = 3 by omega) with rfl | rfl | rfl | rfl <;> rfl) (Nat.le_of_ble_eq_true rfl) (Nat.le_of_ble_eq_true rfl) dX0_init_14 (fun H12 hP hS hz13 => ?_)
  obtain ⟨T14, hT14, O15, hO15, hP⟩ : ∃ T14 : gTy, T14 = gu T3 H8.size (1, 2) ∧ ∃ O15 : gO, O15 = gu O10 H8.size (fun k => match k with | 0 => .null | 1 => .long 0 | 2 => .int 0 | 3 => .int 0 | _ => .null) ∧ gP G T14 I J Q4 O15 H12 := ⟨_, rfl, _, rfl, hP⟩
  have hTk16 : ∀ a, a < H8.size → T14 a = T3 a := by intro a ha; rw [hT14]; rw [gu_ne _ _ (by omega)]
  have hTA : ∀ q, (T14 q).1 ≠ 0 → A q := by intro q hq; by_cases e : q < H8.size; (rw [hTk16 q e] at hq; exact hTA q hq); exact hA q (Nat.le_trans hSo.1 (by omega))
  have ht17 : T14 k = (1, 0) := (hTk16 _ (hPo.lt (by rw [ht6]; decide))).trans ht6
  have ht18 : T14 H.size = (4, 69) := (hTk16 _ (hPo.lt (by rw [ht7]; decide))).trans ht7
  have ht19 : T14 H8.size = (1, 2) := (by rw [hT14]; exact gu_eq _ _ _)
  have ho20 : O15 H8.size 0 = .null := by rw [hO15, gu_eq]; rfl
  have ho21 : O15 H8.size 1 = .long (0 : Int64) := by rw [hO15, gu_eq]; rfl
  have ho22 : O15 H8.size 2 = .int (nI 0) := by rw [hO15, gu_eq]; rfl
  have ho23 : O15 H8.size 3 = .int (nI 0) := by rw [hO15, gu_eq]; rfl
  refine lv_dup hx hb dX0_init_17 rfl ?_
  have hPo := hP
  have hSo := hS
  refine g_cc (g_rIN (As := []) hC (c_X2_init l hP (x := H8.size) (by first | assumption | omega) (by first | assumption | omega)) ⟨q1_34, List.mem_of_getElem? (i := 2) rfl, q1_33, q1_4⟩ rfl dd_X2_init ⟨Nat.le_of_ble_eq_true rfl, Nat.le_of_ble_eq_true rfl, rfl, rfl⟩ hl.1 rfl (Nat.le_of_ble_eq_true rfl) dX0_init_18 ⟨Nat.le_of_ble_eq_true rfl, Nat.le_of_ble_eq_true rfl⟩) hS (fun q h => h.elim (hTA q) (fun z => hA q (Nat.le_trans hS.1 z))) (fun r28 H24 locs25 hq29 hS hz26 hfr27 => ?_)
  obtain ⟨rfl, hzz30, hP⟩ := hq29
  obtain ⟨T31, hT31, J32, hJ32, O33, hO33, hP⟩ : ∃ X : gTy, X = gu T14 (H8.size + 1) (3, 4) ∧ ∃ Y : gJ, Y = gu J (H8.size + 1) (fun _ => 0) ∧ ∃ Z : gO, Z = au O15 H8.size 0 (.ref (H8.size + 1)) ∧ gP G X I Y Q4 Z H24 := ⟨_, rfl, _, rfl, _, rfl, hP⟩
  have hTk34 : ∀ a, a < H12.size → T31 a = T14 a := by intro a ha; rw [hT31]; rw [gu_ne _ _ (by omega)]
  have hTA : ∀ q, (T31 q).1 ≠ 0 → A q := by intro q hq; by_cases e : q < H12.size; (rw [hTk34 q e] at hq; exact hTA q hq); exact hA q (Nat.le_trans hSo.1 (by omega))
  have ht35 : T31 k = (1, 0) := (hTk34 _ (hPo.lt (by rw [ht17]; decide))).trans ht17
  have ht36 : T31 H.size = (4, 69) := (hTk34 _ (hPo.lt (by rw [ht18]; decide))).trans ht18
  have ht37 : T31 H8.size = (1, 2) := (hTk34 _ (hPo.lt (by rw [ht19]; decide))).trans ht19
  have ht38 : T31 (H8.size + 1) = (3, 4) := by rw [hT31]; exact gu_eq _ _ _
  refine W.eq (g2 := F0 m 21 ls [.ref H8.size, .ref k]) rfl ?_
  refine g_put hC hP hS hTA ht35 rfl inX0 tyX0 tyX0_ok nmX0 2 (by decide) q1_64 rfl (ty := tyX0 2) (by decide) rfl rfl dX0_init_21 (fun H39 locs40 hP hS hz42 => ?_)
  obtain ⟨O41, hO41, hP⟩ : ∃ X : gO, X = au O33 k 2 (.ref H8.size) ∧ gP G T31 I J32 Q4 X H39 := ⟨_, rfl, hP⟩
  refine lv_aload_n hx hb dX0_init_24 rfl (lv_at hl 0 rfl) ?_
  refine lv_iconst (v := nI 3) hx hb dX0_init_25 (by decide) ?_
  refine lv_iconst (v := nI 4) hx hb dX0_init_26 (by decide) ?_
  have hSo := hS
  have hPo := hP
  refine g_mna hC hP hS ⟨q1_59, q1_58⟩ (Nat.le_of_ble_eq_true rfl) (Nat.le_of_ble_eq_true rfl) dX0_init_27 (fun H43 hP hS hz44 => ?_)
  obtain ⟨T45, hT45, J46, hJ46, Q47, hQ47, hP⟩ : ∃ T45 : gTy, T45 = mnT T31 H39.size ∧ ∃ J46 : gJ, J46 = mnJ J32 H39.size ∧ ∃ Q47 : gR, Q47 = mnQ Q4 H39.size ∧ gP G T45 I J46 Q47 O41 H43 := ⟨_, rfl, _, rfl, _, rfl, hP⟩
  have hTk48 : ∀ a, a < H39.size → T45 a = T31 a := by intro a ha; rw [hT45]; unfold mnT; rw [gu_ne _ _ (by omega)]; rw [gu_ne _ _ (by omega)]; rw [gu_ne _ _ (by omega)]; rw [gu_ne _ _ (by omega)]
  have hTA : ∀ q, (T45 q).1 ≠ 0 → A q := by intro q hq; by_cases e : q < H39.size; (rw [hTk48 q e] at hq; exact hTA q hq); exact hA q (Nat.le_trans hSo.1 (by omega))
  have ht49 : T45 k = (1, 0) := (hTk48 _ (hPo.lt (by rw [ht35]; decide))).trans ht35
  have ht50 : T45 H.size = (4, 69) := (hTk48 _ (hPo.lt (by rw [ht36]; decide))).trans ht36
  have ht51 : T45 H8.size = (1, 2) := (hTk48 _ (hPo.lt (by rw [ht37]; decide))).trans ht37
  have ht52 : T45 (H8.size + 1) = (3, 4) := (hTk48 _ (hPo.lt (by rw [ht38]; decide))).trans ht38
  have ht53 : T45 H39.size = (5, 3) := (by rw [hT45]; unfold mnT; simp [gu])
  refine g_putF hC hP hS hTA ht49 rfl inX0 tyX0 tyX0_ok nmX0 3 (by decide) q1_65 rfl rfl (ty := tyX0 3) (by decide) rfl rfl dX0_init_31 (fun H54 locs55 hP hS hz57 => ?_)
  obtain ⟨O56, hO56, hP⟩ : ∃ X : gO, X = au O41 k 3 (.ref H39.size) ∧ gP G T45 I J46 Q47 X H54 := ⟨_, rfl, hP⟩
  refine W.widen (k := 7) (n := 200) (by omega) (by omega) ?_
  refine g_retcv hC hS ?_ dX0_init_34
  refine ⟨rfl, by omega, T45, J46, Q47, O56, hP, ?_⟩
  clear hP
  simp only [hT3, hQ4, hO10, hT14, hO15, hT31, hJ32, hO33, hO41, hT45, hJ46, hQ47, hO56, hz2, hz11, hz13, hz26, hzz30, hz42, hz44, hz57, hsz]
  exact cNew_of
