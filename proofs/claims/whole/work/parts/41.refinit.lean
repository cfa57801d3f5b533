/-! ===== the reference's constructor ===== -/
def mcT (T : gTy) (h : Nat) : gTy := (gu (gu (gu (gu (gu (gu (gu (gu (gu (gu (gu (gu (gu (gu (gu (gu T (h + 1) (2, 2)) (h + 2) (2, 32)) (h + 3) (2, 8)) (h + 4) (2, 7)) (h + 5) (3, 4)) (h + 6) (3, 4)) (h + 7) (2, 2)) (h + 8) (3, 640)) (h + 9) (3, 160)) (h + 10) (2, 160)) (h + 11) (2, 160)) (h + 12) (3, 9)) (h + 13) (2, 4)) (h + 14) (2, 4)) (h + 15) (3, 4)) (h + 16) (2, 40))
def mcO (O : gO) (h : Nat) : gO := (au (au (au (au (au (au (au (au (au (au (au (au (au (au (au (au O h 0 (.ref (h + 1))) h 1 (.ref (h + 2))) h 2 (.ref (h + 3))) h 3 (.ref (h + 4))) h 4 (.ref (h + 5))) h 5 (.ref (h + 6))) h 9 (.ref (h + 7))) h 10 (.ref (h + 8))) h 11 (.ref (h + 9))) h 12 (.ref (h + 10))) h 13 (.ref (h + 11))) h 14 (.ref (h + 12))) h 15 (.ref (h + 13))) h 16 (.ref (h + 14))) h 17 (.ref (h + 15))) h 18 (.ref (h + 16)))
def mcI (I : gI) (h : Nat) : gI := (gu (gu (gu (gu (gu (gu (gu (gu (gu (au (au (gu I (h + 1) (fun _ => 0)) (h + 1) 0 (nI 1)) (h + 1) 1 (nI 1)) (h + 2) (fun _ => 0)) (h + 3) (fun _ => 0)) (h + 4) (fun _ => 0)) (h + 7) (fun _ => 0)) (h + 10) (fun _ => 0)) (h + 11) (fun _ => 0)) (h + 13) (fun _ => 0)) (h + 14) (fun _ => 0)) (h + 16) (fun _ => 0))
def mcJ (J : gJ) (h : Nat) : gJ := (gu (gu (gu (gu (gu (gu J (h + 5) (fun _ => 0)) (h + 6) (fun _ => 0)) (h + 8) (fun _ => 0)) (h + 9) (fun _ => 0)) (h + 12) (fun _ => 0)) (h + 15) (fun _ => 0))
theorem mc_Mo {T : gTy} {O : gO} {h : Nat} (h0 : T h = (1, 5)) : isMo (mcT T h) (mcO O h) h := by
  unfold isMo mcT mcO
  simp [gu, au, h0]
theorem mc_S {I : gI} {h : Nat} : moS (mcI I h) h gs0 := by
  have e1 : mcI I h (h + 1) = gu (gu (fun _ => 0) 0 (nI 1)) 1 (nI 1) := by unfold mcI; simp [gu, au]
  have e2 : mcI I h (h + 2) = fun _ => 0 := by unfold mcI; simp [gu, au]
  have e3 : mcI I h (h + 3) = fun _ => 0 := by unfold mcI; simp [gu, au]
  have e4 : mcI I h (h + 4) = fun _ => 0 := by unfold mcI; simp [gu, au]
  refine ⟨by decide, by decide, by rw [e1]; rfl, by rw [e1]; rfl, fun _ _ _ _ => by rw [e2]; rfl, fun _ _ _ _ => by rw [e2]; rfl, fun _ _ => by rw [e3]; rfl, fun _ _ => by rw [e3]; rfl, fun _ _ => by rw [e4]; rfl⟩
theorem mc_T {T : gTy} {h q : Nat} (hq : q < h + 1 ∨ h + 17 ≤ q) : mcT T h q = T q := by
  unfold mcT
  iterate 16 rw [gu_ne _ _ (by omega)]
set_option maxHeartbeats 4000000 in
set_option maxRecDepth 100000 in
theorem c_X5_init (l : Launch) {G : gG} {T : gTy} {I : gI} {J : gJ} {Q : gR} {O : gO} {H : Heap} (hP : gP G T I J Q O H) {h : Nat} (hx0 : T h = (1, 5)) (hsz : H.size = h + 1) : Met l yX5_init (gw yX5_init cX5_init 1 (none)) ({ frames := 1, cells := 16, slots := 1240, locals := 20 } : Room) (gPc G H [.ref h]) (gQc (gF T H) (fun r H1 => r = none ∧ H1.size = h + 17 ∧ ∃ T2 : gTy, (∀ q, q < h + 1 ∨ h + 17 ≤ q → T2 q = T q) ∧ moR G T2 h gs0 H1)) 16 1240 (gF T H) := by
  refine g_met [(0, .ref h)] (by decide) rfl (by exact Nat.le_of_ble_eq_true rfl) ?_
  intro p e s m below meth c hC hs ls hl
  have hx := hC.1.1
  have hb := hC.1.2.1
  have hS : va_S (gF T H) s.heap H [] := hs ▸ va_S.rf
  have hTA : ∀ q, (T q).1 ≠ 0 → gF T H q := fun q h => Or.inl h
  have hA : ∀ q, s.heap.size ≤ q → gF T H q := fun q h => Or.inr (hs ▸ h)
  generalize hAe : gF T H = A at hS hTA hA ⊢
  refine lv_aload_n hx hb dX5_init_0 rfl (lv_at hl 0 rfl) ?_
  refine W.objInit hx hb hC.1.2.2.2.1 (hC.1.2.2.2.2 _ q3_5) (hC.1.2.2.2.2 _ q1_15) (hC.1.2.2.2.2 _ q1_16) rfl (by rw [hC.1.2.2.1]; exact hl.1) rfl dX5_init_1 (Nat.le_of_ble_eq_true rfl) (Nat.le_of_ble_eq_true rfl) ?_
  refine W.eq (g2 := F0 m 4 ls []) rfl ?_
  refine lv_aload_n hx hb dX5_init_4 rfl (lv_at hl 0 rfl) ?_
  refine lv_iconst (v := nI 2) hx hb dX5_init_5 (by decide) ?_
  have hSo := hS
  have hPo := hP
  refine g_newI hC hP hS q1_95 (by decide) (Nat.le_of_ble_eq_true rfl) (Nat.le_of_ble_eq_true rfl) dX5_init_6 (fun H1 hP hS hz2 => ?_)
  obtain ⟨T3, hT3, I4, hI4, hP⟩ : ∃ T3 : gTy, T3 = gu T H.size (2, 2) ∧ ∃ I4 : gI, I4 = gu I H.size (fun _ => 0) ∧ gP G T3 I4 J Q O H1 := ⟨_, rfl, _, rfl, hP⟩
  have hTk5 : ∀ a, a < H.size → T3 a = T a := by intro a ha; rw [hT3]; rw [gu_ne _ _ (by omega)]
  have hTA : ∀ q, (T3 q).1 ≠ 0 → A q := by intro q hq; by_cases e : q < H.size; (rw [hTk5 q e] at hq; exact hTA q hq); exact hA q (Nat.le_trans hSo.1 (by omega))
  have ht6 : T3 h = (1, 5) := (hTk5 _ (hPo.lt (by rw [hx0]; decide))).trans hx0
  have ht7 : T3 H.size = (2, 2) := (by rw [hT3]; exact gu_eq _ _ _)
  refine lv_dup hx hb dX5_init_8 rfl ?_
  refine lv_iconst (v := nI 0) hx hb dX5_init_9 (by decide) ?_
  refine lv_iconst (v := nI 1) hx hb dX5_init_10 (by decide) ?_
  refine g_iast hC hP hS hTA ht7 (vp_in_nI (by omega) (by decide)) dX5_init_11 (fun H8 locs9 hP hS hz11 => ?_)
  rw [show (nI 0).toNatClampNeg = 0 from nI_clamp (by omega)] at hP
  obtain ⟨I10, hI10, hP⟩ : ∃ X : gI, X = au I4 H.size 0 (nI 1) ∧ gP G T3 X J Q O H8 := ⟨_, rfl, hP⟩
  refine lv_dup hx hb dX5_init_12 rfl ?_
  refine lv_iconst (v := nI 1) hx hb dX5_init_13 (by decide) ?_
  refine lv_iconst (v := nI 1) hx hb dX5_init_14 (by decide) ?_
  refine g_iast hC hP hS hTA ht7 (vp_in_nI (by omega) (by decide)) dX5_init_15 (fun H12 locs13 hP hS hz15 => ?_)
  rw [show (nI 1).toNatClampNeg = 1 from nI_clamp (by omega)] at hP
  obtain ⟨I14, hI14, hP⟩ : ∃ X : gI, X = au I10 H.size 1 (nI 1) ∧ gP G T3 X J Q O H12 := ⟨_, rfl, hP⟩
  refine g_putF hC hP hS hTA ht6 rfl inX5 tyX5 tyX5_ok nmX5 0 (by decide) q3_6 rfl rfl (ty := tyX5 0) (by decide) rfl rfl dX5_init_16 (fun H16 locs17 hP hS hz19 => ?_)
  obtain ⟨O18, hO18, hP⟩ : ∃ X : gO, X = au O h 0 (.ref H.size) ∧ gP G T3 I14 J Q X H16 := ⟨_, rfl, hP⟩
  refine lv_aload_n hx hb dX5_init_19 rfl (lv_at hl 0 rfl) ?_
  refine lv_bipush (v := nI 32) hx hb dX5_init_20 (by decide) ?_
  have hSo := hS
  have hPo := hP
  refine g_newI hC hP hS q1_95 (by decide) (Nat.le_of_ble_eq_true rfl) (Nat.le_of_ble_eq_true rfl) dX5_init_22 (fun H20 hP hS hz21 => ?_)
  obtain ⟨T22, hT22, I23, hI23, hP⟩ : ∃ T22 : gTy, T22 = gu T3 H16.size (2, 32) ∧ ∃ I23 : gI, I23 = gu I14 H16.size (fun _ => 0) ∧ gP G T22 I23 J Q O18 H20 := ⟨_, rfl, _, rfl, hP⟩
  have hTk24 : ∀ a, a < H16.size → T22 a = T3 a := by intro a ha; rw [hT22]; rw [gu_ne _ _ (by omega)]
  have hTA : ∀ q, (T22 q).1 ≠ 0 → A q := by intro q hq; by_cases e : q < H16.size; (rw [hTk24 q e] at hq; exact hTA q hq); exact hA q (Nat.le_trans hSo.1 (by omega))
  have ht25 : T22 h = (1, 5) := (hTk24 _ (hPo.lt (by rw [ht6]; decide))).trans ht6
  have ht26 : T22 H.size = (2, 2) := (hTk24 _ (hPo.lt (by rw [ht7]; decide))).trans ht7
  have ht27 : T22 H16.size = (2, 32) := (by rw [hT22]; exact gu_eq _ _ _)
  refine g_putF hC hP hS hTA ht25 rfl inX5 tyX5 tyX5_ok nmX5 1 (by decide) q3_7 rfl rfl (ty := tyX5 1) (by decide) rfl rfl dX5_init_24 (fun H28 locs29 hP hS hz31 => ?_)
  obtain ⟨O30, hO30, hP⟩ : ∃ X : gO, X = au O18 h 1 (.ref H16.size) ∧ gP G T22 I23 J Q X H28 := ⟨_, rfl, hP⟩
  refine lv_aload_n hx hb dX5_init_27 rfl (lv_at hl 0 rfl) ?_
  refine lv_bipush (v := nI 8) hx hb dX5_init_28 (by decide) ?_
  have hSo := hS
  have hPo := hP
  refine g_newI hC hP hS q1_95 (by decide) (Nat.le_of_ble_eq_true rfl) (Nat.le_of_ble_eq_true rfl) dX5_init_30 (fun H32 hP hS hz33 => ?_)
  obtain ⟨T34, hT34, I35, hI35, hP⟩ : ∃ T34 : gTy, T34 = gu T22 H28.size (2, 8) ∧ ∃ I35 : gI, I35 = gu I23 H28.size (fun _ => 0) ∧ gP G T34 I35 J Q O30 H32 := ⟨_, rfl, _, rfl, hP⟩
  have hTk36 : ∀ a, a < H28.size → T34 a = T22 a := by intro a ha; rw [hT34]; rw [gu_ne _ _ (by omega)]
  have hTA : ∀ q, (T34 q).1 ≠ 0 → A q := by intro q hq; by_cases e : q < H28.size; (rw [hTk36 q e] at hq; exact hTA q hq); exact hA q (Nat.le_trans hSo.1 (by omega))
  have ht37 : T34 h = (1, 5) := (hTk36 _ (hPo.lt (by rw [ht25]; decide))).trans ht25
  have ht38 : T34 H.size = (2, 2) := (hTk36 _ (hPo.lt (by rw [ht26]; decide))).trans ht26
  have ht39 : T34 H16.size = (2, 32) := (hTk36 _ (hPo.lt (by rw [ht27]; decide))).trans ht27
  have ht40 : T34 H28.size = (2, 8) := (by rw [hT34]; exact gu_eq _ _ _)
  refine g_putF hC hP hS hTA ht37 rfl inX5 tyX5 tyX5_ok nmX5 2 (by decide) q3_8 rfl rfl (ty := tyX5 2) (by decide) rfl rfl dX5_init_32 (fun H41 locs42 hP hS hz44 => ?_)
  obtain ⟨O43, hO43, hP⟩ : ∃ X : gO, X = au O30 h 2 (.ref H28.size) ∧ gP G T34 I35 J Q X H41 := ⟨_, rfl, hP⟩
  refine lv_aload_n hx hb dX5_init_35 rfl (lv_at hl 0 rfl) ?_
  refine lv_bipush (v := nI 7) hx hb dX5_init_36 (by decide) ?_
  have hSo := hS
  have hPo := hP
  refine g_newI hC hP hS q1_95 (by decide) (Nat.le_of_ble_eq_true rfl) (Nat.le_of_ble_eq_true rfl) dX5_init_38 (fun H45 hP hS hz46 => ?_)
  obtain ⟨T47, hT47, I48, hI48, hP⟩ : ∃ T47 : gTy, T47 = gu T34 H41.size (2, 7) ∧ ∃ I48 : gI, I48 = gu I35 H41.size (fun _ => 0) ∧ gP G T47 I48 J Q O43 H45 := ⟨_, rfl, _, rfl, hP⟩
  have hTk49 : ∀ a, a < H41.size → T47 a = T34 a := by intro a ha; rw [hT47]; rw [gu_ne _ _ (by omega)]
  have hTA : ∀ q, (T47 q).1 ≠ 0 → A q := by intro q hq; by_cases e : q < H41.size; (rw [hTk49 q e] at hq; exact hTA q hq); exact hA q (Nat.le_trans hSo.1 (by omega))
  have ht50 : T47 h = (1, 5) := (hTk49 _ (hPo.lt (by rw [ht37]; decide))).trans ht37
  have ht51 : T47 H.size = (2, 2) := (hTk49 _ (hPo.lt (by rw [ht38]; decide))).trans ht38
  have ht52 : T47 H16.size = (2, 32) := (hTk49 _ (hPo.lt (by rw [ht39]; decide))).trans ht39
  have ht53 : T47 H28.size = (2, 8) := (hTk49 _ (hPo.lt (by rw [ht40]; decide))).trans ht40
  have ht54 : T47 H41.size = (2, 7) := (by rw [hT47]; exact gu_eq _ _ _)
  refine g_putF hC hP hS hTA ht50 rfl inX5 tyX5 tyX5_ok nmX5 3 (by decide) q3_9 rfl rfl (ty := tyX5 3) (by decide) rfl rfl dX5_init_40 (fun H55 locs56 hP hS hz58 => ?_)
  obtain ⟨O57, hO57, hP⟩ : ∃ X : gO, X = au O43 h 3 (.ref H41.size) ∧ gP G T47 I48 J Q X H55 := ⟨_, rfl, hP⟩
  refine lv_aload_n hx hb dX5_init_43 rfl (lv_at hl 0 rfl) ?_
  refine lv_iconst (v := nI 4) hx hb dX5_init_44 (by decide) ?_
  have hSo := hS
  have hPo := hP
  refine g_newJ hC hP hS q1_58 (by decide) (Nat.le_of_ble_eq_true rfl) (Nat.le_of_ble_eq_true rfl) dX5_init_45 (fun H59 hP hS hz60 => ?_)
  obtain ⟨T61, hT61, J62, hJ62, hP⟩ : ∃ T61 : gTy, T61 = gu T47 H55.size (3, 4) ∧ ∃ J62 : gJ, J62 = gu J H55.size (fun _ => 0) ∧ gP G T61 I48 J62 Q O57 H59 := ⟨_, rfl, _, rfl, hP⟩
  have hTk63 : ∀ a, a < H55.size → T61 a = T47 a := by intro a ha; rw [hT61]; rw [gu_ne _ _ (by omega)]
  have hTA : ∀ q, (T61 q).1 ≠ 0 → A q := by intro q hq; by_cases e : q < H55.size; (rw [hTk63 q e] at hq; exact hTA q hq); exact hA q (Nat.le_trans hSo.1 (by omega))
  have ht64 : T61 h = (1, 5) := (hTk63 _ (hPo.lt (by rw [ht50]; decide))).trans ht50
  have ht65 : T61 H.size = (2, 2) := (hTk63 _ (hPo.lt (by rw [ht51]; decide))).trans ht51
  have ht66 : T61 H16.size = (2, 32) := (hTk63 _ (hPo.lt (by rw [ht52]; decide))).trans ht52
  have ht67 : T61 H28.size = (2, 8) := (hTk63 _ (hPo.lt (by rw [ht53]; decide))).trans ht53
  have ht68 : T61 H41.size = (2, 7) := (hTk63 _ (hPo.lt (by rw [ht54]; decide))).trans ht54
  have ht69 : T61 H55.size = (3, 4) := (by rw [hT61]; exact gu_eq _ _ _)
  refine g_putF hC hP hS hTA ht64 rfl inX5 tyX5 tyX5_ok nmX5 4 (by decide) q3_10 rfl rfl (ty := tyX5 4) (by decide) rfl rfl dX5_init_47 (fun H70 locs71 hP hS hz73 => ?_)
  obtain ⟨O72, hO72, hP⟩ : ∃ X : gO, X = au O57 h 4 (.ref H55.size) ∧ gP G T61 I48 J62 Q X H70 := ⟨_, rfl, hP⟩
  refine lv_aload_n hx hb dX5_init_50 rfl (lv_at hl 0 rfl) ?_
  refine lv_iconst (v := nI 4) hx hb dX5_init_51 (by decide) ?_
  have hSo := hS
  have hPo := hP
  refine g_newJ hC hP hS q1_58 (by decide) (Nat.le_of_ble_eq_true rfl) (Nat.le_of_ble_eq_true rfl) dX5_init_52 (fun H74 hP hS hz75 => ?_)
  obtain ⟨T76, hT76, J77, hJ77, hP⟩ : ∃ T76 : gTy, T76 = gu T61 H70.size (3, 4) ∧ ∃ J77 : gJ, J77 = gu J62 H70.size (fun _ => 0) ∧ gP G T76 I48 J77 Q O72 H74 := ⟨_, rfl, _, rfl, hP⟩
  have hTk78 : ∀ a, a < H70.size → T76 a = T61 a := by intro a ha; rw [hT76]; rw [gu_ne _ _ (by omega)]
  have hTA : ∀ q, (T76 q).1 ≠ 0 → A q := by intro q hq; by_cases e : q < H70.size; (rw [hTk78 q e] at hq; exact hTA q hq); exact hA q (Nat.le_trans hSo.1 (by omega))
  have ht79 : T76 h = (1, 5) := (hTk78 _ (hPo.lt (by rw [ht64]; decide))).trans ht64
  have ht80 : T76 H.size = (2, 2) := (hTk78 _ (hPo.lt (by rw [ht65]; decide))).trans ht65
  have ht81 : T76 H16.size = (2, 32) := (hTk78 _ (hPo.lt (by rw [ht66]; decide))).trans ht66
  have ht82 : T76 H28.size = (2, 8) := (hTk78 _ (hPo.lt (by rw [ht67]; decide))).trans ht67
  have ht83 : T76 H41.size = (2, 7) := (hTk78 _ (hPo.lt (by rw [ht68]; decide))).trans ht68
  have ht84 : T76 H55.size = (3, 4) := (hTk78 _ (hPo.lt (by rw [ht69]; decide))).trans ht69
  have ht85 : T76 H70.size = (3, 4) := (by rw [hT76]; exact gu_eq _ _ _)
  refine g_putF hC hP hS hTA ht79 rfl inX5 tyX5 tyX5_ok nmX5 5 (by decide) q3_11 rfl rfl (ty := tyX5 5) (by decide) rfl rfl dX5_init_54 (fun H86 locs87 hP hS hz89 => ?_)
  obtain ⟨O88, hO88, hP⟩ : ∃ X : gO, X = au O72 h 5 (.ref H70.size) ∧ gP G T76 I48 J77 Q X H86 := ⟨_, rfl, hP⟩
  refine lv_aload_n hx hb dX5_init_57 rfl (lv_at hl 0 rfl) ?_
  refine lv_iconst (v := nI 2) hx hb dX5_init_58 (by decide) ?_
  have hSo := hS
  have hPo := hP
  refine g_newI hC hP hS q1_95 (by decide) (Nat.le_of_ble_eq_true rfl) (Nat.le_of_ble_eq_true rfl) dX5_init_59 (fun H90 hP hS hz91 => ?_)
  obtain ⟨T92, hT92, I93, hI93, hP⟩ : ∃ T92 : gTy, T92 = gu T76 H86.size (2, 2) ∧ ∃ I93 : gI, I93 = gu I48 H86.size (fun _ => 0) ∧ gP G T92 I93 J77 Q O88 H90 := ⟨_, rfl, _, rfl, hP⟩
  have hTk94 : ∀ a, a < H86.size → T92 a = T76 a := by intro a ha; rw [hT92]; rw [gu_ne _ _ (by omega)]
  have hTA : ∀ q, (T92 q).1 ≠ 0 → A q := by intro q hq; by_cases e : q < H86.size; (rw [hTk94 q e] at hq; exact hTA q hq); exact hA q (Nat.le_trans hSo.1 (by omega))
  have ht95 : T92 h = (1, 5) := (hTk94 _ (hPo.lt (by rw [ht79]; decide))).trans ht79
  have ht96 : T92 H.size = (2, 2) := (hTk94 _ (hPo.lt (by rw [ht80]; decide))).trans ht80
  have ht97 : T92 H16.size = (2, 32) := (hTk94 _ (hPo.lt (by rw [ht81]; decide))).trans ht81
  have ht98 : T92 H28.size = (2, 8) := (hTk94 _ (hPo.lt (by rw [ht82]; decide))).trans ht82
  have ht99 : T92 H41.size = (2, 7) := (hTk94 _ (hPo.lt (by rw [ht83]; decide))).trans ht83
  have ht100 : T92 H55.size = (3, 4) := (hTk94 _ (hPo.lt (by rw [ht84]; decide))).trans ht84
  have ht101 : T92 H70.size = (3, 4) := (hTk94 _ (hPo.lt (by rw [ht85]; decide))).trans ht85
  have ht102 : T92 H86.size = (2, 2) := (by rw [hT92]; exact gu_eq _ _ _)
  refine g_putF hC hP hS hTA ht95 rfl inX5 tyX5 tyX5_ok nmX5 9 (by decide) q3_15 rfl rfl (ty := tyX5 9) (by decide) rfl rfl dX5_init_61 (fun H103 locs104 hP hS hz106 => ?_)
  obtain ⟨O105, hO105, hP⟩ : ∃ X : gO, X = au O88 h 9 (.ref H86.size) ∧ gP G T92 I93 J77 Q X H103 := ⟨_, rfl, hP⟩
  refine lv_aload_n hx hb dX5_init_64 rfl (lv_at hl 0 rfl) ?_
  refine lv_sipush (v := nI 640) hx hb dX5_init_65 (by decide) ?_
  have hSo := hS
  have hPo := hP
  refine g_newJ hC hP hS q1_58 (by decide) (Nat.le_of_ble_eq_true rfl) (Nat.le_of_ble_eq_true rfl) dX5_init_68 (fun H107 hP hS hz108 => ?_)
  obtain ⟨T109, hT109, J110, hJ110, hP⟩ : ∃ T109 : gTy, T109 = gu T92 H103.size (3, 640) ∧ ∃ J110 : gJ, J110 = gu J77 H103.size (fun _ => 0) ∧ gP G T109 I93 J110 Q O105 H107 := ⟨_, rfl, _, rfl, hP⟩
  have hTk111 : ∀ a, a < H103.size → T109 a = T92 a := by intro a ha; rw [hT109]; rw [gu_ne _ _ (by omega)]
  have hTA : ∀ q, (T109 q).1 ≠ 0 → A q := by intro q hq; by_cases e : q < H103.size; (rw [hTk111 q e] at hq; exact hTA q hq); exact hA q (Nat.le_trans hSo.1 (by omega))
  have ht112 : T109 h = (1, 5) := (hTk111 _ (hPo.lt (by rw [ht95]; decide))).trans ht95
  have ht113 : T109 H.size = (2, 2) := (hTk111 _ (hPo.lt (by rw [ht96]; decide))).trans ht96
  have ht114 : T109 H16.size = (2, 32) := (hTk111 _ (hPo.lt (by rw [ht97]; decide))).trans ht97
  have ht115 : T109 H28.size = (2, 8) := (hTk111 _ (hPo.lt (by rw [ht98]; decide))).trans ht98
  have ht116 : T109 H41.size = (2, 7) := (hTk111 _ (hPo.lt (by rw [ht99]; decide))).trans ht99
  have ht117 : T109 H55.size = (3, 4) := (hTk111 _ (hPo.lt (by rw [ht100]; decide))).trans ht100
  have ht118 : T109 H70.size = (3, 4) := (hTk111 _ (hPo.lt (by rw [ht101]; decide))).trans ht101
  have ht119 : T109 H86.size = (2, 2) := (hTk111 _ (hPo.lt (by rw [ht102]; decide))).trans ht102
  have ht120 : T109 H103.size = (3, 640) := (by rw [hT109]; exact gu_eq _ _ _)
  refine g_putF hC hP hS hTA ht112 rfl inX5 tyX5 tyX5_ok nmX5 10 (by decide) q3_16 rfl rfl (ty := tyX5 10) (by decide) rfl rfl dX5_init_70 (fun H121 locs122 hP hS hz124 => ?_)
  obtain ⟨O123, hO123, hP⟩ : ∃ X : gO, X = au O105 h 10 (.ref H103.size) ∧ gP G T109 I93 J110 Q X H121 := ⟨_, rfl, hP⟩
  refine lv_aload_n hx hb dX5_init_73 rfl (lv_at hl 0 rfl) ?_
  refine lv_sipush (v := nI 160) hx hb dX5_init_74 (by decide) ?_
  have hSo := hS
  have hPo := hP
  refine g_newJ hC hP hS q1_58 (by decide) (Nat.le_of_ble_eq_true rfl) (Nat.le_of_ble_eq_true rfl) dX5_init_77 (fun H125 hP hS hz126 => ?_)
  obtain ⟨T127, hT127, J128, hJ128, hP⟩ : ∃ T127 : gTy, T127 = gu T109 H121.size (3, 160) ∧ ∃ J128 : gJ, J128 = gu J110 H121.size (fun _ => 0) ∧ gP G T127 I93 J128 Q O123 H125 := ⟨_, rfl, _, rfl, hP⟩
  have hTk129 : ∀ a, a < H121.size → T127 a = T109 a := by intro a ha; rw [hT127]; rw [gu_ne _ _ (by omega)]
  have hTA : ∀ q, (T127 q).1 ≠ 0 → A q := by intro q hq; by_cases e : q < H121.size; (rw [hTk129 q e] at hq; exact hTA q hq); exact hA q (Nat.le_trans hSo.1 (by omega))
  have ht130 : T127 h = (1, 5) := (hTk129 _ (hPo.lt (by rw [ht112]; decide))).trans ht112
  have ht131 : T127 H.size = (2, 2) := (hTk129 _ (hPo.lt (by rw [ht113]; decide))).trans ht113
  have ht132 : T127 H16.size = (2, 32) := (hTk129 _ (hPo.lt (by rw [ht114]; decide))).trans ht114
  have ht133 : T127 H28.size = (2, 8) := (hTk129 _ (hPo.lt (by rw [ht115]; decide))).trans ht115
  have ht134 : T127 H41.size = (2, 7) := (hTk129 _ (hPo.lt (by rw [ht116]; decide))).trans ht116
  have ht135 : T127 H55.size = (3, 4) := (hTk129 _ (hPo.lt (by rw [ht117]; decide))).trans ht117
  have ht136 : T127 H70.size = (3, 4) := (hTk129 _ (hPo.lt (by rw [ht118]; decide))).trans ht118
  have ht137 : T127 H86.size = (2, 2) := (hTk129 _ (hPo.lt (by rw [ht119]; decide))).trans ht119
  have ht138 : T127 H103.size = (3, 640) := (hTk129 _ (hPo.lt (by rw [ht120]; decide))).trans ht120
  have ht139 : T127 H121.size = (3, 160) := (by rw [hT127]; exact gu_eq _ _ _)
  refine g_putF hC hP hS hTA ht130 rfl inX5 tyX5 tyX5_ok nmX5 11 (by decide) q3_17 rfl rfl (ty := tyX5 11) (by decide) rfl rfl dX5_init_79 (fun H140 locs141 hP hS hz143 => ?_)
  obtain ⟨O142, hO142, hP⟩ : ∃ X : gO, X = au O123 h 11 (.ref H121.size) ∧ gP G T127 I93 J128 Q X H140 := ⟨_, rfl, hP⟩
  refine lv_aload_n hx hb dX5_init_82 rfl (lv_at hl 0 rfl) ?_
  refine lv_sipush (v := nI 160) hx hb dX5_init_83 (by decide) ?_
  have hSo := hS
  have hPo := hP
  refine g_newI hC hP hS q1_95 (by decide) (Nat.le_of_ble_eq_true rfl) (Nat.le_of_ble_eq_true rfl) dX5_init_86 (fun H144 hP hS hz145 => ?_)
  obtain ⟨T146, hT146, I147, hI147, hP⟩ : ∃ T146 : gTy, T146 = gu T127 H140.size (2, 160) ∧ ∃ I147 : gI, I147 = gu I93 H140.size (fun _ => 0) ∧ gP G T146 I147 J128 Q O142 H144 := ⟨_, rfl, _, rfl, hP⟩
  have hTk148 : ∀ a, a < H140.size → T146 a = T127 a := by intro a ha; rw [hT146]; rw [gu_ne _ _ (by omega)]
  have hTA : ∀ q, (T146 q).1 ≠ 0 → A q := by intro q hq; by_cases e : q < H140.size; (rw [hTk148 q e] at hq; exact hTA q hq); exact hA q (Nat.le_trans hSo.1 (by omega))
  have ht149 : T146 h = (1, 5) := (hTk148 _ (hPo.lt (by rw [ht130]; decide))).trans ht130
  have ht150 : T146 H.size = (2, 2) := (hTk148 _ (hPo.lt (by rw [ht131]; decide))).trans ht131
  have ht151 : T146 H16.size = (2, 32) := (hTk148 _ (hPo.lt (by rw [ht132]; decide))).trans ht132
  have ht152 : T146 H28.size = (2, 8) := (hTk148 _ (hPo.lt (by rw [ht133]; decide))).trans ht133
  have ht153 : T146 H41.size = (2, 7) := (hTk148 _ (hPo.lt (by rw [ht134]; decide))).trans ht134
  have ht154 : T146 H55.size = (3, 4) := (hTk148 _ (hPo.lt (by rw [ht135]; decide))).trans ht135
  have ht155 : T146 H70.size = (3, 4) := (hTk148 _ (hPo.lt (by rw [ht136]; decide))).trans ht136
  have ht156 : T146 H86.size = (2, 2) := (hTk148 _ (hPo.lt (by rw [ht137]; decide))).trans ht137
  have ht157 : T146 H103.size = (3, 640) := (hTk148 _ (hPo.lt (by rw [ht138]; decide))).trans ht138
  have ht158 : T146 H121.size = (3, 160) := (hTk148 _ (hPo.lt (by rw [ht139]; decide))).trans ht139
  have ht159 : T146 H140.size = (2, 160) := (by rw [hT146]; exact gu_eq _ _ _)
  refine g_putF hC hP hS hTA ht149 rfl inX5 tyX5 tyX5_ok nmX5 12 (by decide) q3_18 rfl rfl (ty := tyX5 12) (by decide) rfl rfl dX5_init_88 (fun H160 locs161 hP hS hz163 => ?_)
  obtain ⟨O162, hO162, hP⟩ : ∃ X : gO, X = au O142 h 12 (.ref H140.size) ∧ gP G T146 I147 J128 Q X H160 := ⟨_, rfl, hP⟩
  refine lv_aload_n hx hb dX5_init_91 rfl (lv_at hl 0 rfl) ?_
  refine lv_sipush (v := nI 160) hx hb dX5_init_92 (by decide) ?_
  have hSo := hS
  have hPo := hP
  refine g_newI hC hP hS q1_95 (by decide) (Nat.le_of_ble_eq_true rfl) (Nat.le_of_ble_eq_true rfl) dX5_init_95 (fun H164 hP hS hz165 => ?_)
  obtain ⟨T166, hT166, I167, hI167, hP⟩ : ∃ T166 : gTy, T166 = gu T146 H160.size (2, 160) ∧ ∃ I167 : gI, I167 = gu I147 H160.size (fun _ => 0) ∧ gP G T166 I167 J128 Q O162 H164 := ⟨_, rfl, _, rfl, hP⟩
  have hTk168 : ∀ a, a < H160.size → T166 a = T146 a := by intro a ha; rw [hT166]; rw [gu_ne _ _ (by omega)]
  have hTA : ∀ q, (T166 q).1 ≠ 0 → A q := by intro q hq; by_cases e : q < H160.size; (rw [hTk168 q e] at hq; exact hTA q hq); exact hA q (Nat.le_trans hSo.1 (by omega))
  have ht169 : T166 h = (1, 5) := (hTk168 _ (hPo.lt (by rw [ht149]; decide))).trans ht149
  have ht170 : T166 H.size = (2, 2) := (hTk168 _ (hPo.lt (by rw [ht150]; decide))).trans ht150
  have ht171 : T166 H16.size = (2, 32) := (hTk168 _ (hPo.lt (by rw [ht151]; decide))).trans ht151
  have ht172 : T166 H28.size = (2, 8) := (hTk168 _ (hPo.lt (by rw [ht152]; decide))).trans ht152
  have ht173 : T166 H41.size = (2, 7) := (hTk168 _ (hPo.lt (by rw [ht153]; decide))).trans ht153
  have ht174 : T166 H55.size = (3, 4) := (hTk168 _ (hPo.lt (by rw [ht154]; decide))).trans ht154
  have ht175 : T166 H70.size = (3, 4) := (hTk168 _ (hPo.lt (by rw [ht155]; decide))).trans ht155
  have ht176 : T166 H86.size = (2, 2) := (hTk168 _ (hPo.lt (by rw [ht156]; decide))).trans ht156
  have ht177 : T166 H103.size = (3, 640) := (hTk168 _ (hPo.lt (by rw [ht157]; decide))).trans ht157
  have ht178 : T166 H121.size = (3, 160) := (hTk168 _ (hPo.lt (by rw [ht158]; decide))).trans ht158
  have ht179 : T166 H140.size = (2, 160) := (hTk168 _ (hPo.lt (by rw [ht159]; decide))).trans ht159
  have ht180 : T166 H160.size = (2, 160) := (by rw [hT166]; exact gu_eq _ _ _)
  refine g_putF hC hP hS hTA ht169 rfl inX5 tyX5 tyX5_ok nmX5 13 (by decide) q3_19 rfl rfl (ty := tyX5 13) (by decide) rfl rfl dX5_init_97 (fun H181 locs182 hP hS hz184 => ?_)
  obtain ⟨O183, hO183, hP⟩ : ∃ X : gO, X = au O162 h 13 (.ref H160.size) ∧ gP G T166 I167 J128 Q X H181 := ⟨_, rfl, hP⟩
  refine lv_aload_n hx hb dX5_init_100 rfl (lv_at hl 0 rfl) ?_
  refine lv_bipush (v := nI 9) hx hb dX5_init_101 (by decide) ?_
  have hSo := hS
  have hPo := hP
  refine g_newJ hC hP hS q1_58 (by decide) (Nat.le_of_ble_eq_true rfl) (Nat.le_of_ble_eq_true rfl) dX5_init_103 (fun H185 hP hS hz186 => ?_)
  obtain ⟨T187, hT187, J188, hJ188, hP⟩ : ∃ T187 : gTy, T187 = gu T166 H181.size (3, 9) ∧ ∃ J188 : gJ, J188 = gu J128 H181.size (fun _ => 0) ∧ gP G T187 I167 J188 Q O183 H185 := ⟨_, rfl, _, rfl, hP⟩
  have hTk189 : ∀ a, a < H181.size → T187 a = T166 a := by intro a ha; rw [hT187]; rw [gu_ne _ _ (by omega)]
  have hTA : ∀ q, (T187 q).1 ≠ 0 → A q := by intro q hq; by_cases e : q < H181.size; (rw [hTk189 q e] at hq; exact hTA q hq); exact hA q (Nat.le_trans hSo.1 (by omega))
  have ht190 : T187 h = (1, 5) := (hTk189 _ (hPo.lt (by rw [ht169]; decide))).trans ht169
  have ht191 : T187 H.size = (2, 2) := (hTk189 _ (hPo.lt (by rw [ht170]; decide))).trans ht170
  have ht192 : T187 H16.size = (2, 32) := (hTk189 _ (hPo.lt (by rw [ht171]; decide))).trans ht171
  have ht193 : T187 H28.size = (2, 8) := (hTk189 _ (hPo.lt (by rw [ht172]; decide))).trans ht172
  have ht194 : T187 H41.size = (2, 7) := (hTk189 _ (hPo.lt (by rw [ht173]; decide))).trans ht173
  have ht195 : T187 H55.size = (3, 4) := (hTk189 _ (hPo.lt (by rw [ht174]; decide))).trans ht174
  have ht196 : T187 H70.size = (3, 4) := (hTk189 _ (hPo.lt (by rw [ht175]; decide))).trans ht175
  have ht197 : T187 H86.size = (2, 2) := (hTk189 _ (hPo.lt (by rw [ht176]; decide))).trans ht176
  have ht198 : T187 H103.size = (3, 640) := (hTk189 _ (hPo.lt (by rw [ht177]; decide))).trans ht177
  have ht199 : T187 H121.size = (3, 160) := (hTk189 _ (hPo.lt (by rw [ht178]; decide))).trans ht178
  have ht200 : T187 H140.size = (2, 160) := (hTk189 _ (hPo.lt (by rw [ht179]; decide))).trans ht179
  have ht201 : T187 H160.size = (2, 160) := (hTk189 _ (hPo.lt (by rw [ht180]; decide))).trans ht180
  have ht202 : T187 H181.size = (3, 9) := (by rw [hT187]; exact gu_eq _ _ _)
  refine g_putF hC hP hS hTA ht190 rfl inX5 tyX5 tyX5_ok nmX5 14 (by decide) q3_20 rfl rfl (ty := tyX5 14) (by decide) rfl rfl dX5_init_105 (fun H203 locs204 hP hS hz206 => ?_)
  obtain ⟨O205, hO205, hP⟩ : ∃ X : gO, X = au O183 h 14 (.ref H181.size) ∧ gP G T187 I167 J188 Q X H203 := ⟨_, rfl, hP⟩
  refine lv_aload_n hx hb dX5_init_108 rfl (lv_at hl 0 rfl) ?_
  refine lv_iconst (v := nI 4) hx hb dX5_init_109 (by decide) ?_
  have hSo := hS
  have hPo := hP
  refine g_newI hC hP hS q1_95 (by decide) (Nat.le_of_ble_eq_true rfl) (Nat.le_of_ble_eq_true rfl) dX5_init_110 (fun H207 hP hS hz208 => ?_)
  obtain ⟨T209, hT209, I210, hI210, hP⟩ : ∃ T209 : gTy, T209 = gu T187 H203.size (2, 4) ∧ ∃ I210 : gI, I210 = gu I167 H203.size (fun _ => 0) ∧ gP G T209 I210 J188 Q O205 H207 := ⟨_, rfl, _, rfl, hP⟩
  have hTk211 : ∀ a, a < H203.size → T209 a = T187 a := by intro a ha; rw [hT209]; rw [gu_ne _ _ (by omega)]
  have hTA : ∀ q, (T209 q).1 ≠ 0 → A q := by intro q hq; by_cases e : q < H203.size; (rw [hTk211 q e] at hq; exact hTA q hq); exact hA q (Nat.le_trans hSo.1 (by omega))
  have ht212 : T209 h = (1, 5) := (hTk211 _ (hPo.lt (by rw [ht190]; decide))).trans ht190
  have ht213 : T209 H.size = (2, 2) := (hTk211 _ (hPo.lt (by rw [ht191]; decide))).trans ht191
  have ht214 : T209 H16.size = (2, 32) := (hTk211 _ (hPo.lt (by rw [ht192]; decide))).trans ht192
  have ht215 : T209 H28.size = (2, 8) := (hTk211 _ (hPo.lt (by rw [ht193]; decide))).trans ht193
  have ht216 : T209 H41.size = (2, 7) := (hTk211 _ (hPo.lt (by rw [ht194]; decide))).trans ht194
  have ht217 : T209 H55.size = (3, 4) := (hTk211 _ (hPo.lt (by rw [ht195]; decide))).trans ht195
  have ht218 : T209 H70.size = (3, 4) := (hTk211 _ (hPo.lt (by rw [ht196]; decide))).trans ht196
  have ht219 : T209 H86.size = (2, 2) := (hTk211 _ (hPo.lt (by rw [ht197]; decide))).trans ht197
  have ht220 : T209 H103.size = (3, 640) := (hTk211 _ (hPo.lt (by rw [ht198]; decide))).trans ht198
  have ht221 : T209 H121.size = (3, 160) := (hTk211 _ (hPo.lt (by rw [ht199]; decide))).trans ht199
  have ht222 : T209 H140.size = (2, 160) := (hTk211 _ (hPo.lt (by rw [ht200]; decide))).trans ht200
  have ht223 : T209 H160.size = (2, 160) := (hTk211 _ (hPo.lt (by rw [ht201]; decide))).trans ht201
  have ht224 : T209 H181.size = (3, 9) := (hTk211 _ (hPo.lt (by rw [ht202]; decide))).trans ht202
  have ht225 : T209 H203.size = (2, 4) := (by rw [hT209]; exact gu_eq _ _ _)
  refine g_putF hC hP hS hTA ht212 rfl inX5 tyX5 tyX5_ok nmX5 15 (by decide) q3_21 rfl rfl (ty := tyX5 15) (by decide) rfl rfl dX5_init_112 (fun H226 locs227 hP hS hz229 => ?_)
  obtain ⟨O228, hO228, hP⟩ : ∃ X : gO, X = au O205 h 15 (.ref H203.size) ∧ gP G T209 I210 J188 Q X H226 := ⟨_, rfl, hP⟩
  refine lv_aload_n hx hb dX5_init_115 rfl (lv_at hl 0 rfl) ?_
  refine lv_iconst (v := nI 4) hx hb dX5_init_116 (by decide) ?_
  have hSo := hS
  have hPo := hP
  refine g_newI hC hP hS q1_95 (by decide) (Nat.le_of_ble_eq_true rfl) (Nat.le_of_ble_eq_true rfl) dX5_init_117 (fun H230 hP hS hz231 => ?_)
  obtain ⟨T232, hT232, I233, hI233, hP⟩ : ∃ T232 : gTy, T232 = gu T209 H226.size (2, 4) ∧ ∃ I233 : gI, I233 = gu I210 H226.size (fun _ => 0) ∧ gP G T232 I233 J188 Q O228 H230 := ⟨_, rfl, _, rfl, hP⟩
  have hTk234 : ∀ a, a < H226.size → T232 a = T209 a := by intro a ha; rw [hT232]; rw [gu_ne _ _ (by omega)]
  have hTA : ∀ q, (T232 q).1 ≠ 0 → A q := by intro q hq; by_cases e : q < H226.size; (rw [hTk234 q e] at hq; exact hTA q hq); exact hA q (Nat.le_trans hSo.1 (by omega))
  have ht235 : T232 h = (1, 5) := (hTk234 _ (hPo.lt (by rw [ht212]; decide))).trans ht212
  have ht236 : T232 H.size = (2, 2) := (hTk234 _ (hPo.lt (by rw [ht213]; decide))).trans ht213
  have ht237 : T232 H16.size = (2, 32) := (hTk234 _ (hPo.lt (by rw [ht214]; decide))).trans ht214
  have ht238 : T232 H28.size = (2, 8) := (hTk234 _ (hPo.lt (by rw [ht215]; decide))).trans ht215
  have ht239 : T232 H41.size = (2, 7) := (hTk234 _ (hPo.lt (by rw [ht216]; decide))).trans ht216
  have ht240 : T232 H55.size = (3, 4) := (hTk234 _ (hPo.lt (by rw [ht217]; decide))).trans ht217
  have ht241 : T232 H70.size = (3, 4) := (hTk234 _ (hPo.lt (by rw [ht218]; decide))).trans ht218
  have ht242 : T232 H86.size = (2, 2) := (hTk234 _ (hPo.lt (by rw [ht219]; decide))).trans ht219
  have ht243 : T232 H103.size = (3, 640) := (hTk234 _ (hPo.lt (by rw [ht220]; decide))).trans ht220
  have ht244 : T232 H121.size = (3, 160) := (hTk234 _ (hPo.lt (by rw [ht221]; decide))).trans ht221
  have ht245 : T232 H140.size = (2, 160) := (hTk234 _ (hPo.lt (by rw [ht222]; decide))).trans ht222
  have ht246 : T232 H160.size = (2, 160) := (hTk234 _ (hPo.lt (by rw [ht223]; decide))).trans ht223
  have ht247 : T232 H181.size = (3, 9) := (hTk234 _ (hPo.lt (by rw [ht224]; decide))).trans ht224
  have ht248 : T232 H203.size = (2, 4) := (hTk234 _ (hPo.lt (by rw [ht225]; decide))).trans ht225
  have ht249 : T232 H226.size = (2, 4) := (by rw [hT232]; exact gu_eq _ _ _)
  refine g_putF hC hP hS hTA ht235 rfl inX5 tyX5 tyX5_ok nmX5 16 (by decide) q3_22 rfl rfl (ty := tyX5 16) (by decide) rfl rfl dX5_init_119 (fun H250 locs251 hP hS hz253 => ?_)
  obtain ⟨O252, hO252, hP⟩ : ∃ X : gO, X = au O228 h 16 (.ref H226.size) ∧ gP G T232 I233 J188 Q X H250 := ⟨_, rfl, hP⟩
  refine lv_aload_n hx hb dX5_init_122 rfl (lv_at hl 0 rfl) ?_
  refine lv_iconst (v := nI 4) hx hb dX5_init_123 (by decide) ?_
  have hSo := hS
  have hPo := hP
  refine g_newJ hC hP hS q1_58 (by decide) (Nat.le_of_ble_eq_true rfl) (Nat.le_of_ble_eq_true rfl) dX5_init_124 (fun H254 hP hS hz255 => ?_)
  obtain ⟨T256, hT256, J257, hJ257, hP⟩ : ∃ T256 : gTy, T256 = gu T232 H250.size (3, 4) ∧ ∃ J257 : gJ, J257 = gu J188 H250.size (fun _ => 0) ∧ gP G T256 I233 J257 Q O252 H254 := ⟨_, rfl, _, rfl, hP⟩
  have hTk258 : ∀ a, a < H250.size → T256 a = T232 a := by intro a ha; rw [hT256]; rw [gu_ne _ _ (by omega)]
  have hTA : ∀ q, (T256 q).1 ≠ 0 → A q := by intro q hq; by_cases e : q < H250.size; (rw [hTk258 q e] at hq; exact hTA q hq); exact hA q (Nat.le_trans hSo.1 (by omega))
  have ht259 : T256 h = (1, 5) := (hTk258 _ (hPo.lt (by rw [ht235]; decide))).trans ht235
  have ht260 : T256 H.size = (2, 2) := (hTk258 _ (hPo.lt (by rw [ht236]; decide))).trans ht236
  have ht261 : T256 H16.size = (2, 32) := (hTk258 _ (hPo.lt (by rw [ht237]; decide))).trans ht237
  have ht262 : T256 H28.size = (2, 8) := (hTk258 _ (hPo.lt (by rw [ht238]; decide))).trans ht238
  have ht263 : T256 H41.size = (2, 7) := (hTk258 _ (hPo.lt (by rw [ht239]; decide))).trans ht239
  have ht264 : T256 H55.size = (3, 4) := (hTk258 _ (hPo.lt (by rw [ht240]; decide))).trans ht240
  have ht265 : T256 H70.size = (3, 4) := (hTk258 _ (hPo.lt (by rw [ht241]; decide))).trans ht241
  have ht266 : T256 H86.size = (2, 2) := (hTk258 _ (hPo.lt (by rw [ht242]; decide))).trans ht242
  have ht267 : T256 H103.size = (3, 640) := (hTk258 _ (hPo.lt (by rw [ht243]; decide))).trans ht243
  have ht268 : T256 H121.size = (3, 160) := (hTk258 _ (hPo.lt (by rw [ht244]; decide))).trans ht244
  have ht269 : T256 H140.size = (2, 160) := (hTk258 _ (hPo.lt (by rw [ht245]; decide))).trans ht245
  have ht270 : T256 H160.size = (2, 160) := (hTk258 _ (hPo.lt (by rw [ht246]; decide))).trans ht246
  have ht271 : T256 H181.size = (3, 9) := (hTk258 _ (hPo.lt (by rw [ht247]; decide))).trans ht247
  have ht272 : T256 H203.size = (2, 4) := (hTk258 _ (hPo.lt (by rw [ht248]; decide))).trans ht248
  have ht273 : T256 H226.size = (2, 4) := (hTk258 _ (hPo.lt (by rw [ht249]; decide))).trans ht249
  have ht274 : T256 H250.size = (3, 4) := (by rw [hT256]; exact gu_eq _ _ _)
  refine g_putF hC hP hS hTA ht259 rfl inX5 tyX5 tyX5_ok nmX5 17 (by decide) q3_23 rfl rfl (ty := tyX5 17) (by decide) rfl rfl dX5_init_126 (fun H275 locs276 hP hS hz278 => ?_)
  obtain ⟨O277, hO277, hP⟩ : ∃ X : gO, X = au O252 h 17 (.ref H250.size) ∧ gP G T256 I233 J257 Q X H275 := ⟨_, rfl, hP⟩
  refine lv_aload_n hx hb dX5_init_129 rfl (lv_at hl 0 rfl) ?_
  refine lv_bipush (v := nI 40) hx hb dX5_init_130 (by decide) ?_
  have hSo := hS
  have hPo := hP
  refine g_newI hC hP hS q1_95 (by decide) (Nat.le_of_ble_eq_true rfl) (Nat.le_of_ble_eq_true rfl) dX5_init_132 (fun H279 hP hS hz280 => ?_)
  obtain ⟨T281, hT281, I282, hI282, hP⟩ : ∃ T281 : gTy, T281 = gu T256 H275.size (2, 40) ∧ ∃ I282 : gI, I282 = gu I233 H275.size (fun _ => 0) ∧ gP G T281 I282 J257 Q O277 H279 := ⟨_, rfl, _, rfl, hP⟩
  have hTk283 : ∀ a, a < H275.size → T281 a = T256 a := by intro a ha; rw [hT281]; rw [gu_ne _ _ (by omega)]
  have hTA : ∀ q, (T281 q).1 ≠ 0 → A q := by intro q hq; by_cases e : q < H275.size; (rw [hTk283 q e] at hq; exact hTA q hq); exact hA q (Nat.le_trans hSo.1 (by omega))
  have ht284 : T281 h = (1, 5) := (hTk283 _ (hPo.lt (by rw [ht259]; decide))).trans ht259
  have ht285 : T281 H.size = (2, 2) := (hTk283 _ (hPo.lt (by rw [ht260]; decide))).trans ht260
  have ht286 : T281 H16.size = (2, 32) := (hTk283 _ (hPo.lt (by rw [ht261]; decide))).trans ht261
  have ht287 : T281 H28.size = (2, 8) := (hTk283 _ (hPo.lt (by rw [ht262]; decide))).trans ht262
  have ht288 : T281 H41.size = (2, 7) := (hTk283 _ (hPo.lt (by rw [ht263]; decide))).trans ht263
  have ht289 : T281 H55.size = (3, 4) := (hTk283 _ (hPo.lt (by rw [ht264]; decide))).trans ht264
  have ht290 : T281 H70.size = (3, 4) := (hTk283 _ (hPo.lt (by rw [ht265]; decide))).trans ht265
  have ht291 : T281 H86.size = (2, 2) := (hTk283 _ (hPo.lt (by rw [ht266]; decide))).trans ht266
  have ht292 : T281 H103.size = (3, 640) := (hTk283 _ (hPo.lt (by rw [ht267]; decide))).trans ht267
  have ht293 : T281 H121.size = (3, 160) := (hTk283 _ (hPo.lt (by rw [ht268]; decide))).trans ht268
  have ht294 : T281 H140.size = (2, 160) := (hTk283 _ (hPo.lt (by rw [ht269]; decide))).trans ht269
  have ht295 : T281 H160.size = (2, 160) := (hTk283 _ (hPo.lt (by rw [ht270]; decide))).trans ht270
  have ht296 : T281 H181.size = (3, 9) := (hTk283 _ (hPo.lt (by rw [ht271]; decide))).trans ht271
  have ht297 : T281 H203.size = (2, 4) := (hTk283 _ (hPo.lt (by rw [ht272]; decide))).trans ht272
  have ht298 : T281 H226.size = (2, 4) := (hTk283 _ (hPo.lt (by rw [ht273]; decide))).trans ht273
  have ht299 : T281 H250.size = (3, 4) := (hTk283 _ (hPo.lt (by rw [ht274]; decide))).trans ht274
  have ht300 : T281 H275.size = (2, 40) := (by rw [hT281]; exact gu_eq _ _ _)
  refine g_putF hC hP hS hTA ht284 rfl inX5 tyX5 tyX5_ok nmX5 18 (by decide) q3_24 rfl rfl (ty := tyX5 18) (by decide) rfl rfl dX5_init_134 (fun H301 locs302 hP hS hz304 => ?_)
  obtain ⟨O303, hO303, hP⟩ : ∃ X : gO, X = au O277 h 18 (.ref H275.size) ∧ gP G T281 I282 J257 Q X H301 := ⟨_, rfl, hP⟩
  refine W.widen (k := 16) (n := 1240) (by omega) (by omega) ?_
  refine g_retcv hC hS ?_ dX5_init_137
  refine ⟨rfl, by omega, mcT T h, fun q hq => mc_T hq, mcI I h, mcJ J h, Q, mcO O h, ?_, mc_Mo hx0, mc_S⟩
  simp only [hT3, hI4, hI10, hI14, hO18, hT22, hI23, hO30, hT34, hI35, hO43, hT47, hI48, hO57, hT61, hJ62, hO72, hT76, hJ77, hO88, hT92, hI93, hO105, hT109, hJ110, hO123, hT127, hJ128, hO142, hT146, hI147, hO162, hT166, hI167, hO183, hT187, hJ188, hO205, hT209, hI210, hO228, hT232, hI233, hO252, hT256, hJ257, hO277, hT281, hI282, hO303, hz2, hz11, hz15, hz19, hz21, hz31, hz33, hz44, hz46, hz58, hz60, hz73, hz75, hz89, hz91, hz106, hz108, hz124, hz126, hz143, hz145, hz163, hz165, hz184, hz186, hz206, hz208, hz229, hz231, hz253, hz255, hz278, hz280, hz304, hsz] at hP
  exact hP
