/-! ===== Player() ===== -/
def pNew (T T2 : gTy) (I I2 : gI) (J J2 : gJ) (Q Q2 : gR) (O O2 : gO) (b : Nat) : Prop := (∀ q, q < b + 1 ∨ b + 13 ≤ q → T2 q = T q) ∧ (∀ q, q < b → I2 q = I q ∧ J2 q = J q ∧ Q2 q = Q q ∧ O2 q = O q) ∧ isPl T2 O2 b 1 ∧ isMx T2 O2 (b + 11) ∧ coG T2 Q2 O2 (b + 1) ∧ coR T2 Q2 O2 (b + 1) 0 0 (b + 3) (fun j => j) ∧ (∀ q, b ≤ q → q < b + 13 → (T2 q).1 ≠ 0) ∧ (I2 (b + 9) = fun _ => 0) ∧ I2 (b + 10) = fun _ => 0
theorem pNew_of {T T1 : gTy} {I : gI} {J J1 : gJ} {Q Q1 : gR} {O O1 : gO} {b : Nat} {VC VM : Nat → Value} (h0 : VC 0 = .int 0) (hb : T b = (1, 3)) (hc : cNew (gu T (b + 1) (1, 0)) T1 J J1 Q Q1 (gu (au O b 0 (.int (nI 1))) (b + 1) VC) O1 (b + 1)) : pNew T (gu (gu (gu (gu T1 (b + 9) (2, 16)) (b + 10) (2, 4)) (b + 11) (1, 2)) (b + 12) (3, 4)) I (gu (gu I (b + 9) (fun _ => 0)) (b + 10) (fun _ => 0)) J (gu J1 (b + 12) (fun _ => 0)) Q Q1 O (au (au (gu (au (au (au O1 b 1 (.ref (b + 1))) b 2 (.ref (b + 9))) b 3 (.ref (b + 10))) (b + 11) VM) (b + 11) 0 (.ref (b + 12))) b 4 (.ref (b + 11))) b := by
  obtain ⟨t, f, ⟨t2, t3, t4, t5, t6, t7, t8⟩, ⟨o0, o1, o2, o3, o4⟩, q1, q4⟩ := hc
  generalize hT2 : gu (gu (gu (gu T1 (b + 9) (2, 16)) (b + 10) (2, 4)) (b + 11) (1, 2)) (b + 12) (3, 4) = T2
  generalize hO2 : au (au (gu (au (au (au O1 b 1 (.ref (b + 1))) b 2 (.ref (b + 9))) b 3 (.ref (b + 10))) (b + 11) VM) (b + 11) 0 (.ref (b + 12))) b 4 (.ref (b + 11)) = O2
  have tq : ∀ q, q < b + 9 ∨ b + 13 ≤ q → T2 q = T1 q := fun q hq => by rw [← hT2, gu_ne _ _ (by omega), gu_ne _ _ (by omega), gu_ne _ _ (by omega), gu_ne _ _ (by omega)]
  have oq : ∀ q, q ≠ b → q ≠ b + 11 → O2 q = O1 q := fun q h1 h2 => by rw [← hO2, au_ne _ _ _ h1, au_ne _ _ _ h2, gu_ne _ _ h2, au_ne _ _ _ h1, au_ne _ _ _ h1, au_ne _ _ _ h1]
  have tb : T1 b = (1, 3) := by rw [t b (by omega), gu_ne _ _ (by omega)]; exact hb
  have tk : T1 (b + 1) = (1, 0) := by rw [t (b + 1) (by omega), gu_eq]
  have ob : O1 b 0 = .int (nI 1) := by rw [(f b (by omega)).2.2, gu_ne _ _ (by omega), au_row, gu_eq]
  have ok : O1 (b + 1) 0 = .int 0 := by rw [o0, gu_eq]; exact h0
  have a9 : T2 (b + 9) = (2, 16) := by rw [← hT2, gu_ne _ _ (by omega), gu_ne _ _ (by omega), gu_ne _ _ (by omega), gu_eq]
  have a10 : T2 (b + 10) = (2, 4) := by rw [← hT2, gu_ne _ _ (by omega), gu_ne _ _ (by omega), gu_eq]
  have a11 : T2 (b + 11) = (1, 2) := by rw [← hT2, gu_ne _ _ (by omega), gu_eq]
  have a12 : T2 (b + 12) = (3, 4) := by rw [← hT2, gu_eq]
  have p0 : O2 b 0 = .int (nI 1) := by rw [← hO2]; simp [au, gu, ob]
  have p1 : O2 b 1 = .ref (b + 1) := by rw [← hO2]; simp [au, gu]
  have p2 : O2 b 2 = .ref (b + 9) := by rw [← hO2]; simp [au, gu]
  have p3 : O2 b 3 = .ref (b + 10) := by rw [← hO2]; simp [au, gu]
  have p4 : O2 b 4 = .ref (b + 11) := by rw [← hO2]; simp [au, gu]
  have m0 : O2 (b + 11) 0 = .ref (b + 12) := by rw [← hO2]; simp [au, gu]
  have b0 := (tq b (by omega)).trans tb
  have b1 := (tq (b + 1) (by omega)).trans tk
  have b2 : T2 (b + 2) = (4, 69) := (tq (b + 2) (by omega)).trans t2
  have b3 : T2 (b + 3) = (1, 2) := (tq (b + 3) (by omega)).trans t3
  have b4 : T2 (b + 4) = (3, 4) := (tq (b + 4) (by omega)).trans t4
  have b5 : T2 (b + 5) = (5, 3) := (tq (b + 5) (by omega)).trans t5
  have b6 : T2 (b + 6) = (3, 4) := (tq (b + 6) (by omega)).trans t6
  have b7 : T2 (b + 7) = (3, 4) := (tq (b + 7) (by omega)).trans t7
  have b8 : T2 (b + 8) = (3, 4) := (tq (b + 8) (by omega)).trans t8
  have ok1 := oq (b + 1) (by omega) (by omega)
  have ok3 := oq (b + 3) (by omega) (by omega)
  refine ⟨fun q hq => ?_, fun q hq => ⟨?_, ?_, ?_, ?_⟩, ⟨b0, p0, p1, p2, p3, p4, a9, a10, by omega, by omega⟩, ⟨a11, m0, a12⟩, ⟨b1, by rw [ok1]; exact o1, by rw [ok1]; exact o3, b2, b5, b6, b7, b8, by rw [q4]; rfl, by rw [q4]; rfl, by rw [q4]; rfl⟩, ⟨by rw [ok1]; exact ok, by rw [ok1]; exact o2, Nat.le_refl 0, by omega, fun j _ => by rw [q1, if_neg (by omega)], ⟨b3, by rw [ok3]; exact o4, b4⟩, fun j hj => absurd hj (by omega), fun i j hi => absurd hi (by omega)⟩, fun q h1 h2 => ?_, ?_, ?_⟩
  · rw [tq q (by omega), t q (by omega), gu_ne _ _ (by omega)]
  · rw [gu_ne _ _ (by omega), gu_ne _ _ (by omega)]
  · rw [gu_ne _ _ (by omega)]; exact (f q (by omega)).1
  · exact (f q (by omega)).2.1
  · rw [oq q (by omega) (by omega), (f q (by omega)).2.2, gu_ne _ _ (by omega), au_ne _ _ _ (by omega)]
  · rcases (show q = b ∨ q = b + 1 ∨ q = b + 2 ∨ q = b + 3 ∨ q = b + 4 ∨ q = b + 5 ∨ q = b + 6 ∨ q = b + 7 ∨ q = b + 8 ∨ q = b + 9 ∨ q = b + 10 ∨ q = b + 11 ∨ q = b + 12 by omega) with rfl | rfl | rfl | rfl | rfl | rfl | rfl | rfl | rfl | rfl | rfl | rfl | rfl
    all_goals simp [b0, b1, b2, b3, b4, b5, b6, b7, b8, a9, a10, a11, a12]
  · rw [gu_ne _ _ (by omega), gu_eq]
  · rw [gu_eq]
set_option maxHeartbeats 4000000 in
set_option maxRecDepth 100000 in
theorem c_X1_init (l : Launch) {G : gG} {T : gTy} {I : gI} {J : gJ} {Q : gR} {O : gO} {H : Heap} (hP : gP G T I J Q O H) {x : Nat} (hx0 : T x = (1, 1)) : Met l yX1_init (gw yX1_init cX1_init 1 (none)) ({ frames := 1, cells := 0, slots := 0, locals := 20 } : Room) (gPc G H [.ref x]) (gQc (gF T H) (fun r H1 => r = none ∧ H1.size = H.size ∧ gP G T I J Q O H1)) 0 0 (gF T H) := by
  refine g_met [(0, .ref x)] (by decide) rfl (by exact Nat.le_of_ble_eq_true rfl) ?_
  intro p e s m below meth c hC hs ls hl
  have hx := hC.1.1
  have hb := hC.1.2.1
  have hS : va_S (gF T H) s.heap H [] := hs ▸ va_S.rf
  have hTA : ∀ q, (T q).1 ≠ 0 → gF T H q := fun q h => Or.inl h
  have hA : ∀ q, s.heap.size ≤ q → gF T H q := fun q h => Or.inr (hs ▸ h)
  generalize hAe : gF T H = A at hS hTA hA ⊢
  refine lv_aload_n hx hb dX1_init_0 rfl (lv_at hl 0 rfl) ?_
  refine W.objInit hx hb hC.1.2.2.2.1 (hC.1.2.2.2.2 _ q1_101) (hC.1.2.2.2.2 _ q1_15) (hC.1.2.2.2.2 _ q1_16) rfl (by rw [hC.1.2.2.1]; exact hl.1) rfl dX1_init_1 (Nat.le_of_ble_eq_true rfl) (Nat.le_of_ble_eq_true rfl) ?_
  refine W.eq (g2 := F0 m 4 ls []) rfl ?_
  refine g_retcv hC hS ?_ dX1_init_4
  exact ⟨rfl, rfl, hP⟩
set_option maxHeartbeats 4000000 in
set_option maxRecDepth 100000 in
theorem c_X3_init (l : Launch) {G : gG} {T : gTy} {I : gI} {J : gJ} {Q : gR} {O : gO} {H : Heap} (hP : gP G T I J Q O H) {b : Nat} (hx0 : T b = (1, 3)) (hsz : H.size = b + 1) : Met l yX3_init (gw yX3_init cX3_init 1 (none)) ({ frames := 3, cells := 12, slots := 300, locals := 60 } : Room) (gPc G H [.ref b]) (gQc (gF T H) (fun r H1 => r = none ∧ H1.size = b + 13 ∧ ∃ (T2 : gTy) (I2 : gI) (J2 : gJ) (Q2 : gR) (O2 : gO), gP G T2 I2 J2 Q2 O2 H1 ∧ pNew T T2 I I2 J J2 Q Q2 O O2 b)) 12 300 (gF T H) := by
  refine g_met [(0, .ref b)] (by decide) rfl (by exact Nat.le_of_ble_eq_true rfl) ?_
  intro p e s m below meth c hC hs ls hl
  have hx := hC.1.1
  have hb := hC.1.2.1
  have hS : va_S (gF T H) s.heap H [] := hs ▸ va_S.rf
  have hTA : ∀ q, (T q).1 ≠ 0 → gF T H q := fun q h => Or.inl h
  have hA : ∀ q, s.heap.size ≤ q → gF T H q := fun q h => Or.inr (hs ▸ h)
  generalize hAe : gF T H = A at hS hTA hA ⊢
  refine lv_aload_n hx hb dX3_init_0 rfl (lv_at hl 0 rfl) ?_
  refine W.objInit hx hb hC.1.2.2.2.1 (hC.1.2.2.2.2 _ q1_22) (hC.1.2.2.2.2 _ q1_15) (hC.1.2.2.2.2 _ q1_16) rfl (by rw [hC.1.2.2.1]; exact hl.1) rfl dX3_init_1 (Nat.le_of_ble_eq_true rfl) (Nat.le_of_ble_eq_true rfl) ?_
  refine W.eq (g2 := F0 m 4 ls []) rfl ?_
  refine lv_aload_n hx hb dX3_init_4 rfl (lv_at hl 0 rfl) ?_
  refine lv_iconst (v := nI 1) hx hb dX3_init_5 (by decide) ?_
  refine g_put hC hP hS hTA hx0 rfl inX3 tyX3 tyX3_ok nmX3 0 (by decide) q1_77 rfl (ty := tyX3 0) (by decide) rfl rfl dX3_init_6 (fun H1 locs2 hP hS hz4 => ?_)
  obtain ⟨O3, hO3, hP⟩ : ∃ X : gO, X = au O b 0 (.int (nI 1)) ∧ gP G T I J Q X H1 := ⟨_, rfl, hP⟩
  refine lv_aload_n hx hb dX3_init_9 rfl (lv_at hl 0 rfl) ?_
  have hSo := hS
  have hPo := hP
  refine g_new hC hP hS (ci := 0) rfl inX0 tyX0 tyX0_ok ⟨q1_23, q1_24, q1_3⟩ (fun k => match k with | 0 => .int 0 | 1 => .null | 2 => .null | 3 => .null | _ => .null) (fun j hj => by rcases (show j = 0 ∨ j = 1 ∨ j = 2 ∨ j = 3 by omega) with rfl | rfl | rfl | rfl <;> rfl) (Nat.le_of_ble_eq_true rfl) (Nat.le_of_ble_eq_true rfl) dX3_init_10 (fun H5 hP hS hz6 => ?_)
  obtain ⟨T7, hT7, O8, hO8, hP⟩ : ∃ T7 : gTy, T7 = gu T H1.size (1, 0) ∧ ∃ O8 : gO, O8 = gu O3 H1.size (fun k => match k with | 0 => .int 0 | 1 => .null | 2 => .null | 3 => .null | _ => .null) ∧ gP G T7 I J Q O8 H5 := ⟨_, rfl, _, rfl, hP⟩
  have hTk9 : ∀ a, a < H1.size → T7 a = T a := by intro a ha; rw [hT7]; rw [gu_ne _ _ (by omega)]
  have hTA : ∀ q, (T7 q).1 ≠ 0 → A q := by intro q hq; by_cases e : q < H1.size; (rw [hTk9 q e] at hq; exact hTA q hq); exact hA q (Nat.le_trans hSo.1 (by omega))
  have ht10 : T7 b = (1, 3) := (hTk9 _ (hPo.lt (by rw [hx0]; decide))).trans hx0
  have ht11 : T7 H1.size = (1, 0) := (by rw [hT7]; exact gu_eq _ _ _)
  have ho12 : O8 H1.size 0 = .int (nI 0) := by rw [hO8, gu_eq]; rfl
  have ho13 : O8 H1.size 1 = .null := by rw [hO8, gu_eq]; rfl
  have ho14 : O8 H1.size 2 = .null := by rw [hO8, gu_eq]; rfl
  have ho15 : O8 H1.size 3 = .null := by rw [hO8, gu_eq]; rfl
  refine lv_dup hx hb dX3_init_13 rfl ?_
  have hPo := hP
  have hSo := hS
  refine g_cc (g_rIN (As := []) hC (c_X0_init l hP (k := H1.size) (by first | assumption | omega) (by first | assumption | omega)) ⟨q1_27, List.mem_of_getElem? (i := 1) rfl, q1_26, q1_3⟩ rfl dd_X0_init ⟨Nat.le_of_ble_eq_true rfl, Nat.le_of_ble_eq_true rfl, rfl, rfl⟩ hl.1 rfl (Nat.le_of_ble_eq_true rfl) dX3_init_14 ⟨Nat.le_of_ble_eq_true rfl, Nat.le_of_ble_eq_true rfl⟩) hS (fun q h => h.elim (hTA q) (fun z => hA q (Nat.le_trans hS.1 z))) (fun r20 H16 locs17 hq21 hS hz18 hfr19 => ?_)
  obtain ⟨rfl, hzz26, T22, J23, Q24, O25, hP, hcn⟩ := hq21
  have hTk : ∀ a, a < H5.size → T22 a = T7 a := fun a ha => hcn.1 a (Or.inl (by omega))
  have hTA : ∀ q, (T22 q).1 ≠ 0 → A q := by intro q hq; by_cases e : q < H5.size; (rw [hTk q e] at hq; exact hTA q hq); exact hA q (Nat.le_trans hSo.1 (by omega))
  have ht27 : T22 b = (1, 3) := (hTk _ (hPo.lt (by rw [ht10]; decide))).trans ht10
  have ht28 : T22 H1.size = (1, 0) := (hTk _ (hPo.lt (by rw [ht11]; decide))).trans ht11
  refine W.eq (g2 := F0 m 17 ls [.ref H1.size, .ref b]) rfl ?_
  refine g_putF hC hP hS hTA ht27 rfl inX3 tyX3 tyX3_ok nmX3 1 (by decide) q1_79 rfl rfl (ty := tyX3 1) (by decide) rfl rfl dX3_init_17 (fun H29 locs30 hP hS hz32 => ?_)
  obtain ⟨O31, hO31, hP⟩ : ∃ X : gO, X = au O25 b 1 (.ref H1.size) ∧ gP G T22 I J23 Q24 X H29 := ⟨_, rfl, hP⟩
  refine lv_aload_n hx hb dX3_init_20 rfl (lv_at hl 0 rfl) ?_
  refine lv_bipush (v := nI 16) hx hb dX3_init_21 (by decide) ?_
  have hSo := hS
  have hPo := hP
  refine g_newI hC hP hS q1_95 (by decide) (Nat.le_of_ble_eq_true rfl) (Nat.le_of_ble_eq_true rfl) dX3_init_23 (fun H33 hP hS hz34 => ?_)
  obtain ⟨T35, hT35, I36, hI36, hP⟩ : ∃ T35 : gTy, T35 = gu T22 H29.size (2, 16) ∧ ∃ I36 : gI, I36 = gu I H29.size (fun _ => 0) ∧ gP G T35 I36 J23 Q24 O31 H33 := ⟨_, rfl, _, rfl, hP⟩
  have hTk37 : ∀ a, a < H29.size → T35 a = T22 a := by intro a ha; rw [hT35]; rw [gu_ne _ _ (by omega)]
  have hTA : ∀ q, (T35 q).1 ≠ 0 → A q := by intro q hq; by_cases e : q < H29.size; (rw [hTk37 q e] at hq; exact hTA q hq); exact hA q (Nat.le_trans hSo.1 (by omega))
  have ht38 : T35 b = (1, 3) := (hTk37 _ (hPo.lt (by rw [ht27]; decide))).trans ht27
  have ht39 : T35 H1.size = (1, 0) := (hTk37 _ (hPo.lt (by rw [ht28]; decide))).trans ht28
  have ht40 : T35 H29.size = (2, 16) := (by rw [hT35]; exact gu_eq _ _ _)
  refine g_putF hC hP hS hTA ht38 rfl inX3 tyX3 tyX3_ok nmX3 2 (by decide) q1_81 rfl rfl (ty := tyX3 2) (by decide) rfl rfl dX3_init_25 (fun H41 locs42 hP hS hz44 => ?_)
  obtain ⟨O43, hO43, hP⟩ : ∃ X : gO, X = au O31 b 2 (.ref H29.size) ∧ gP G T35 I36 J23 Q24 X H41 := ⟨_, rfl, hP⟩
  refine lv_aload_n hx hb dX3_init_28 rfl (lv_at hl 0 rfl) ?_
  refine lv_iconst (v := nI 4) hx hb dX3_init_29 (by decide) ?_
  have hSo := hS
  have hPo := hP
  refine g_newI hC hP hS q1_95 (by decide) (Nat.le_of_ble_eq_true rfl) (Nat.le_of_ble_eq_true rfl) dX3_init_30 (fun H45 hP hS hz46 => ?_)
  obtain ⟨T47, hT47, I48, hI48, hP⟩ : ∃ T47 : gTy, T47 = gu T35 H41.size (2, 4) ∧ ∃ I48 : gI, I48 = gu I36 H41.size (fun _ => 0) ∧ gP G T47 I48 J23 Q24 O43 H45 := ⟨_, rfl, _, rfl, hP⟩
  have hTk49 : ∀ a, a < H41.size → T47 a = T35 a := by intro a ha; rw [hT47]; rw [gu_ne _ _ (by omega)]
  have hTA : ∀ q, (T47 q).1 ≠ 0 → A q := by intro q hq; by_cases e : q < H41.size; (rw [hTk49 q e] at hq; exact hTA q hq); exact hA q (Nat.le_trans hSo.1 (by omega))
  have ht50 : T47 b = (1, 3) := (hTk49 _ (hPo.lt (by rw [ht38]; decide))).trans ht38
  have ht51 : T47 H1.size = (1, 0) := (hTk49 _ (hPo.lt (by rw [ht39]; decide))).trans ht39
  have ht52 : T47 H29.size = (2, 16) := (hTk49 _ (hPo.lt (by rw [ht40]; decide))).trans ht40
  have ht53 : T47 H41.size = (2, 4) := (by rw [hT47]; exact gu_eq _ _ _)
  refine g_putF hC hP hS hTA ht50 rfl inX3 tyX3 tyX3_ok nmX3 3 (by decide) q1_82 rfl rfl (ty := tyX3 3) (by decide) rfl rfl dX3_init_32 (fun H54 locs55 hP hS hz57 => ?_)
  obtain ⟨O56, hO56, hP⟩ : ∃ X : gO, X = au O43 b 3 (.ref H41.size) ∧ gP G T47 I48 J23 Q24 X H54 := ⟨_, rfl, hP⟩
  refine lv_aload_n hx hb dX3_init_35 rfl (lv_at hl 0 rfl) ?_
  have hSo := hS
  have hPo := hP
  refine g_new hC hP hS (ci := 2) rfl inX2 tyX2 tyX2_ok ⟨q1_75, q1_31, q1_4⟩ (fun k => match k with | 0 => .null | 1 => .long 0 | 2 => .int 0 | 3 => .int 0 | _ => .null) (fun j hj => by rcases (show j = 0 ∨ j = 1 ∨ j = 2 ∨ j = 3 by omega) with rfl | rfl | rfl | rfl <;> rfl) (Nat.le_of_ble_eq_true rfl) (Nat.le_of_ble_eq_true rfl) dX3_init_36 (fun H58 hP hS hz59 => ?_)
  obtain ⟨T60, hT60, O61, hO61, hP⟩ : ∃ T60 : gTy, T60 = gu T47 H54.size (1, 2) ∧ ∃ O61 : gO, O61 = gu O56 H54.size (fun k => match k with | 0 => .null | 1 => .long 0 | 2 => .int 0 | 3 => .int 0 | _ => .null) ∧ gP G T60 I48 J23 Q24 O61 H58 := ⟨_, rfl, _, rfl, hP⟩
  have hTk62 : ∀ a, a < H54.size → T60 a = T47 a := by intro a ha; rw [hT60]; rw [gu_ne _ _ (by omega)]
  have hTA : ∀ q, (T60 q).1 ≠ 0 → A q := by intro q hq; by_cases e : q < H54.size; (rw [hTk62 q e] at hq; exact hTA q hq); exact hA q (Nat.le_trans hSo.1 (by omega))
  have ht63 : T60 b = (1, 3) := (hTk62 _ (hPo.lt (by rw [ht50]; decide))).trans ht50
  have ht64 : T60 H1.size = (1, 0) := (hTk62 _ (hPo.lt (by rw [ht51]; decide))).trans ht51
  have ht65 : T60 H29.size = (2, 16) := (hTk62 _ (hPo.lt (by rw [ht52]; decide))).trans ht52
  have ht66 : T60 H41.size = (2, 4) := (hTk62 _ (hPo.lt (by rw [ht53]; decide))).trans ht53
  have ht67 : T60 H54.size = (1, 2) := (by rw [hT60]; exact gu_eq _ _ _)
  have ho68 : O61 H54.size 0 = .null := by rw [hO61, gu_eq]; rfl
  have ho69 : O61 H54.size 1 = .long (0 : Int64) := by rw [hO61, gu_eq]; rfl
  have ho70 : O61 H54.size 2 = .int (nI 0) := by rw [hO61, gu_eq]; rfl
  have ho71 : O61 H54.size 3 = .int (nI 0) := by rw [hO61, gu_eq]; rfl
  refine lv_dup hx hb dX3_init_39 rfl ?_
  have hPo := hP
  have hSo := hS
  refine g_cc (g_rIN (As := []) hC (c_X2_init l hP (x := H54.size) (by first | assumption | omega) (by first | assumption | omega)) ⟨q1_34, List.mem_of_getElem? (i := 3) rfl, q1_33, q1_4⟩ rfl dd_X2_init ⟨Nat.le_of_ble_eq_true rfl, Nat.le_of_ble_eq_true rfl, rfl, rfl⟩ hl.1 rfl (Nat.le_of_ble_eq_true rfl) dX3_init_40 ⟨Nat.le_of_ble_eq_true rfl, Nat.le_of_ble_eq_true rfl⟩) hS (fun q h => h.elim (hTA q) (fun z => hA q (Nat.le_trans hS.1 z))) (fun r76 H72 locs73 hq77 hS hz74 hfr75 => ?_)
  obtain ⟨rfl, hzz78, hP⟩ := hq77
  obtain ⟨T79, hT79, J80, hJ80, O81, hO81, hP⟩ : ∃ X : gTy, X = gu T60 (H54.size + 1) (3, 4) ∧ ∃ Y : gJ, Y = gu J23 (H54.size + 1) (fun _ => 0) ∧ ∃ Z : gO, Z = au O61 H54.size 0 (.ref (H54.size + 1)) ∧ gP G X I48 Y Q24 Z H72 := ⟨_, rfl, _, rfl, _, rfl, hP⟩
  have hTk82 : ∀ a, a < H58.size → T79 a = T60 a := by intro a ha; rw [hT79]; rw [gu_ne _ _ (by omega)]
  have hTA : ∀ q, (T79 q).1 ≠ 0 → A q := by intro q hq; by_cases e : q < H58.size; (rw [hTk82 q e] at hq; exact hTA q hq); exact hA q (Nat.le_trans hSo.1 (by omega))
  have ht83 : T79 b = (1, 3) := (hTk82 _ (hPo.lt (by rw [ht63]; decide))).trans ht63
  have ht84 : T79 H1.size = (1, 0) := (hTk82 _ (hPo.lt (by rw [ht64]; decide))).trans ht64
  have ht85 : T79 H29.size = (2, 16) := (hTk82 _ (hPo.lt (by rw [ht65]; decide))).trans ht65
  have ht86 : T79 H41.size = (2, 4) := (hTk82 _ (hPo.lt (by rw [ht66]; decide))).trans ht66
  have ht87 : T79 H54.size = (1, 2) := (hTk82 _ (hPo.lt (by rw [ht67]; decide))).trans ht67
  have ht88 : T79 (H54.size + 1) = (3, 4) := by rw [hT79]; exact gu_eq _ _ _
  refine W.eq (g2 := F0 m 43 ls [.ref H54.size, .ref b]) rfl ?_
  refine g_putF hC hP hS hTA ht83 rfl inX3 tyX3 tyX3_ok nmX3 4 (by decide) q1_83 rfl rfl (ty := tyX3 4) (by decide) rfl rfl dX3_init_43 (fun H89 locs90 hP hS hz92 => ?_)
  obtain ⟨O91, hO91, hP⟩ : ∃ X : gO, X = au O81 b 4 (.ref H54.size) ∧ gP G T79 I48 J80 Q24 X H89 := ⟨_, rfl, hP⟩
  refine W.widen (k := 12) (n := 300) (by omega) (by omega) ?_
  refine g_retcv hC hS ?_ dX3_init_46
  refine ⟨rfl, by omega, T79, I48, J80, Q24, O91, hP, ?_⟩
  clear hP
  simp only [hO3, hT7, hO8, hO31, hT35, hI36, hO43, hT47, hI48, hO56, hT60, hO61, hT79, hJ80, hO81, hO91, hz4, hz6, hz18, hzz26, hz32, hz34, hz44, hz46, hz57, hz59, hz74, hzz78, hz92, hsz] at hcn ⊢
  exact pNew_of rfl hx0 hcn
