/-! ===== after the corners are known ===== -/
theorem gt_know {G : gG} {T T2 : gTy} {I : gI} {J : gJ} {Q : gR} {O : gO} {H1 : Heap} {nn g r d mr md : Nat} {Sr Sd : Nat → Prop} (hE : ∀ q, (T2 q).1 ≠ 0 → (T q).1 ≠ 0 ∨ nn ≤ q) (hg : isGT T2 J Q O g r d mr md true (gsCr (gsI I g r d mr md)) (gsCd (gsI I g r d mr md)) Sr Sd) (hP : gP G T2 I J Q O H1) : gtG G T nn g (gsI I g r d mr md) H1 := ⟨T2, I, J, Q, O, r, d, true, _, _, Sr, Sd, hP, hE, hg, fun _ => ⟨rfl, rfl⟩, rfl, rfl, rfl, rfl, rfl⟩
theorem gt_kref {G : gG} {T T2 : gTy} {I I2 : gI} {J : gJ} {Q : gR} {O : gO} {H1 : Heap} {nn g r d mr md j : Nat} {Sr Sd : Nat → Prop} (hE : ∀ q, (T2 q).1 ≠ 0 → (T q).1 ≠ 0 ∨ nn ≤ q) (hg : isGT T2 J Q O g r d mr md true (gsCr (gsI I g r d mr md)) (gsCd (gsI I g r d mr md)) Sr Sd) (hI : I2 = au I (g + 28) j (I (g + 28) j + 1)) (hP : gP G T2 I2 J Q O H1) : gtG G T nn g (gsRef (gsI I g r d mr md) j) H1 := by
  have e := hg.2.2.2.2.2.2.2.2.2.2.2.2.2.2.2.2.1
  exact ⟨T2, I2, J, Q, O, r, d, true, _, _, Sr, Sd, hP, hE, hg, fun _ => ⟨rfl, rfl⟩, by rw [hI, au_ne _ _ _ (by omega)]; rfl, by rw [hI, au_ne _ _ _ (by omega)]; rfl, by rw [hI, au_ne _ _ _ (by omega)]; rfl, by rw [hI, au_ne _ _ _ (by omega)]; rfl, by rw [hI, au_row]; rfl⟩
theorem gt_C {T : gTy} {J : gJ} {Q : gR} {O : gO} {g r d mr md : Nat} {ck : Bool} {s : GS} {Sr Sd : Nat → Prop} (hg : isGT T J Q O g r d mr md ck (gsCr s) (gsCd s) Sr Sd) (h1 : gsm s ≤ 4) (h2 : gsn s ≤ 4) : ∃ (fr sr fd sd : Nat) (ar ad : Nat → Nat), gtC T J Q O r d fr sr fd sd ar ad (gsCr s) (gsCd s) := by
  obtain ⟨-, -, -, -, -, -, -, -, -, -, -, -, -, -, ⟨fr, sr, ar, b1, b2, -⟩, ⟨fd, sd, ad, b3, b4, -⟩, -⟩ := hg
  exact ⟨fr, sr, fd, sd, ar, ad, b1, b3, b2, b4, sU_ok h2 _, sU_ok h1 _, sU_le69 (pow1_lt h2) (pow1_lt h1), sU_le69 (pow1_lt h1) (pow1_lt h2)⟩
theorem bB_all {cr cd : CL} {a e : Nat} (h69 : cd.1 ≤ 69) : ∀ k, k ≤ a → bB cr cd a e k = bR cr cd k
  | 0, _ => rfl
  | k + 1, h => by
    unfold bB bR
    rw [bB_all h69 k (by omega), if_pos (by omega), Nat.min_eq_left h69]
theorem bB_pos {cr cd : CL} {a e : Nat} (h69 : cd.1 ≤ 69) (ha : a < cr.1) (he : e < cd.1) : bB cr cd a e (min cr.1 (a + 1)) = bpos cr cd a e := by
  rw [show min cr.1 (a + 1) = a + 1 from by omega]
  unfold bB bpos
  rw [bB_all h69 a (Nat.le_refl a), if_neg (by omega), show min cd.1 e = e from by omega]
section REL2
variable (s : GS) (K : Int32 → GS → Prop) (L : Int64 → GS → Prop)
def rBalances : Prop := K (nI (bR (gsCr s) (gsCd s) (gsCr s).1)) s
def rCorners (q : Int32) : Prop := rWho s K q (-1) (nI (gsCr s).1) (nI (gsCd s).1)
def rCorner1 (C : CL) (c : Int32) (b : Nat) (f : Int32) : Prop := (inR c C.1 = false ∧ K (-1) (gsRef s 1)) ∨ (inR c C.1 = true ∧ (f < nI 0 ∨ nI 2 < f) ∧ K (-2) (gsRef s 2)) ∨ (∃ a : Nat, a < C.1 ∧ c = nI a ∧ ¬ f < nI 0 ∧ ¬ nI 2 < f ∧ ((f = nI 2 ∧ K (nI (C.2 a).2.2.2) s) ∨ (¬ f = nI 2 ∧ K (lowS ((C.2 a).1 b) (C.2 a).2.1 f).toInt32 s)))
def rCorner (q c j f : Int32) : Prop := ((isW q = false ∨ (q = nI 0 ∧ inR j (gsm s) = false) ∨ (q = nI 1 ∧ inR j (gsn s) = false)) ∧ K (-1) (gsRef s 1)) ∨
  (∃ b : Nat, j = nI b ∧ ((q = nI 0 ∧ b < gsm s ∧ rCorner1 s K (gsCr s) c b f) ∨ (q = nI 1 ∧ b < gsn s ∧ rCorner1 s K (gsCd s) c b f)))
/-- of the numbers of a game -/
def rStatus (k : Int32) : Prop := (k = 0 ∧ K (nI (gsm s)) s) ∨ (k = 1 ∧ K (nI (gsn s)) s) ∨ (k = 2 ∧ K (gb (zeroB (gsP0 s) (gsP1 s) (gsm s) (gsn s))) s) ∨ (k = 3 ∧ K (gb (likeB (gsP0 s) (gsP1 s) (gsm s) (gsn s))) s) ∨ (k = 4 ∧ K (nI ((gsCr s).1 + (gsCd s).1)) s) ∨ ((¬ k = 0 ∧ ¬ k = 1 ∧ ¬ k = 2 ∧ ¬ k = 3 ∧ ¬ k = 4) ∧ (((k ≤ 10 ∨ 16 < k) ∧ K (-9) s) ∨ (∃ j : Nat, 1 ≤ j ∧ j ≤ 6 ∧ k = nI (10 + j) ∧ K (gsrf s j) s)))
end REL2
set_option maxHeartbeats 4000000 in
set_option maxRecDepth 100000 in
theorem c_X4_balances (l : Launch) {G : gG} {T : gTy} {I : gI} {J : gJ} {Q : gR} {O : gO} {H : Heap} (hP : gP G T I J Q O H) {g r d mr md : Nat} {ck : Bool} {cr cd : CL} {Sr Sd : Nat → Prop}  (hg : isGT T J Q O g r d mr md ck cr cd Sr Sd) (hck : ckOK ck cr cd mr md (I (r + 9)) (I (d + 9))) : Met l yX4_balances (gw yX4_balances cX4_balances 1 (some (.int))) ({ frames := 7, cells := 900, slots := 3600, locals := 154 } : Room) (gPc G H [.ref g]) (gQc (gF T H) (fun x H1 => rBalances (gsI I g r d mr md) (fun x1 s1 => x = some (.int x1) ∧ gtG G T H.size g s1 H1) )) 900 3600 (gF T H) := by
  refine g_met [(0, .ref g)] (by decide) rfl (by exact Nat.le_of_ble_eq_true rfl) ?_
  intro p e s m below meth c hC hs ls hl
  have hx := hC.1.1
  have hb := hC.1.2.1
  have hS : va_S (gF T H) s.heap H [] := hs ▸ va_S.rf
  have hTA : ∀ q, (T q).1 ≠ 0 → gF T H q := fun q h => Or.inl h
  have hA : ∀ q, s.heap.size ≤ q → gF T H q := fun q h => Or.inr (hs ▸ h)
  generalize hAe : gF T H = A at hS hTA hA ⊢
  have hg_lo8 := hg.2.2.2.2.2.2.2.2.1.2.2.2.2.2.2.2.2.1
  have hg_hi8 := hg.2.2.2.2.2.2.2.2.1.2.2.2.2.2.2.2.2.2
  have hg_lo9 := hg.2.2.2.2.2.2.2.2.2.1.2.2.2.2.2.2.2.2.1
  have hg_hi9 := hg.2.2.2.2.2.2.2.2.2.1.2.2.2.2.2.2.2.2.2
  have hg_ad := hg.2.2.2.2.2.2.2.2.2.2.2.2.2.2.2.2.1
  refine lv_aload_n hx hb dX4_balances_0 rfl (lv_at hl 0 rfl) ?_
  refine g_cc (g_rV (As := []) hC hP (c_X4_knowCorners l hP (g := g) (by first | assumption | omega) (by first | assumption | omega)) hg.1 rfl ⟨q2_84, q2_81, q2_83, qs_9, q1_1⟩ dd_X4_knowCorners ⟨Nat.le_of_ble_eq_true rfl, Nat.le_of_ble_eq_true rfl, rfl, rfl⟩ hl.1 rfl (Nat.le_of_ble_eq_true rfl) dX4_balances_1 ⟨Nat.le_of_ble_eq_true rfl, Nat.le_of_ble_eq_true rfl⟩) hS (fun q h => h.elim (hTA q) (fun z => hA q (Nat.le_trans hS.1 z))) (fun r5 H1 locs2 hq6 hS hz3 hfr4 => ?_)
  obtain ⟨rfl, T7, J8, Q9, O10, Sr2, Sd2, hP, hE, hg2, hfr⟩ := hq6
  have hTA : ∀ q, (T7 q).1 ≠ 0 → A q := fun q hq => (hE q hq).elim (hTA q) (fun z => hA q (by first | (rw [hs]; exact z) | omega))
  obtain ⟨fr, sr, fd, sd, ar, ad, hgc⟩ := gt_C hg2 hg_hi8 hg_hi9
  obtain ⟨cr2, hcr2⟩ : ∃ x : CL, x = gsCr (gsI I g r d mr md) := ⟨_, rfl⟩
  obtain ⟨cd2, hcd2⟩ : ∃ x : CL, x = gsCd (gsI I g r d mr md) := ⟨_, rfl⟩
  have hg3 := hg2
  rw [← hcr2, ← hcd2] at hg2 hgc
  have hgc_c0 := hgc.1.2.2.1
  have hgc_f0 := hgc.1.2.2.2.1
  have hgc_c1 := hgc.2.1.2.2.1
  have hgc_f1 := hgc.2.1.2.2.2.1
  have hgc_r := hgc.2.2.2.2.2.2.1
  have hgc_d := hgc.2.2.2.2.2.2.2
  refine W.eq (g2 := F0 m 4 ls []) rfl ?_
  refine lv_aload_n hx hb dX4_balances_4 rfl (lv_at hl 0 rfl) ?_
  refine lv_bipush (v := nI 69) hx hb dX4_balances_5 (by decide) ?_
  refine lv_iconst (v := nI 0) hx hb dX4_balances_7 (by decide) ?_
  refine g_cp (g_rV (As := [.int (nI 69), .int (nI 0)]) hC hP (c_X4_balancesBefore l hP (g := g) (cr := cr2) (cd := cd2) (a := 69) (e2 := 0) (by first | assumption | omega) (by first | assumption | omega) (by first | assumption | omega) (by first | assumption | omega)) hg2.1 rfl ⟨q2_162, q2_159, q2_161, qs_20, q1_1⟩ dd_X4_balancesBefore ⟨Nat.le_of_ble_eq_true rfl, Nat.le_of_ble_eq_true rfl, rfl, rfl⟩ hl.1 rfl (Nat.le_of_ble_eq_true rfl) dX4_balances_8 ⟨Nat.le_of_ble_eq_true rfl, Nat.le_of_ble_eq_true rfl⟩) ?_
  refine W.eq (g2 := F0 m 11 ls [.int (nI (bB cr2 cd2 69 0 (min cr2.1 (69 + 1))))]) rfl ?_
  refine W.widen (k := 900) (n := 3600) (by omega) (by omega) ?_
  refine g_retci hC hS ?_ dX4_balances_11
  refine ⟨?_, gt_know hE hg3 hP⟩
  rw [← hcr2, ← hcd2, show min cr2.1 (69 + 1) = cr2.1 from by omega, bB_all hgc_d _ hgc_r]
set_option maxHeartbeats 4000000 in
set_option maxRecDepth 100000 in
theorem c_X4_corners (l : Launch) {G : gG} {T : gTy} {I : gI} {J : gJ} {Q : gR} {O : gO} {H : Heap} (hP : gP G T I J Q O H) {g r d mr md : Nat} {ck : Bool} {cr cd : CL} {Sr Sd : Nat → Prop} {q : Int32} (hg : isGT T J Q O g r d mr md ck cr cd Sr Sd) (hck : ckOK ck cr cd mr md (I (r + 9)) (I (d + 9))) : Met l yX4_corners (gw yX4_corners cX4_corners 2 (some (.int))) ({ frames := 7, cells := 900, slots := 3600, locals := 154 } : Room) (gPc G H [.ref g, .int q]) (gQc (gF T H) (fun x H1 => rCorners (gsI I g r d mr md) (fun x1 s1 => x = some (.int x1) ∧ gtG G T H.size g s1 H1) q)) 900 3600 (gF T H) := by
  refine g_met [(0, .ref g), (1, .int q)] (by decide) rfl (by exact Nat.le_of_ble_eq_true rfl) ?_
  intro p e s m below meth c hC hs ls hl
  have hx := hC.1.1
  have hb := hC.1.2.1
  have hS : va_S (gF T H) s.heap H [] := hs ▸ va_S.rf
  have hTA : ∀ q, (T q).1 ≠ 0 → gF T H q := fun q h => Or.inl h
  have hA : ∀ q, s.heap.size ≤ q → gF T H q := fun q h => Or.inr (hs ▸ h)
  generalize hAe : gF T H = A at hS hTA hA ⊢
  have hg_lo8 := hg.2.2.2.2.2.2.2.2.1.2.2.2.2.2.2.2.2.1
  have hg_hi8 := hg.2.2.2.2.2.2.2.2.1.2.2.2.2.2.2.2.2.2
  have hg_lo9 := hg.2.2.2.2.2.2.2.2.2.1.2.2.2.2.2.2.2.2.1
  have hg_hi9 := hg.2.2.2.2.2.2.2.2.2.1.2.2.2.2.2.2.2.2.2
  have hg_ad := hg.2.2.2.2.2.2.2.2.2.2.2.2.2.2.2.2.1
  refine lv_iload_n hx hb dX4_corners_0 rfl (lv_at hl 1 rfl) ?_
  refine g_cp (g_rS (As := [.int q]) hC (c_X4_isWho l (q := q)) ⟨q1_153, q1_151, q1_152, q1_1⟩ dd_X4_isWho ⟨Nat.le_of_ble_eq_true rfl, Nat.le_of_ble_eq_true rfl, rfl, rfl⟩ hl.1 rfl (Nat.le_of_ble_eq_true rfl) dX4_corners_1 ⟨Nat.le_of_ble_eq_true rfl, Nat.le_of_ble_eq_true rfl⟩) ?_
  refine W.eq (g2 := F0 m 4 ls [.int (gb (isW q))]) rfl ?_
  refine lv_if_ne (tgt := 13) hx hb dX4_corners_4 (by decide) (fun c4 => ?_) (fun c4 => ?_)
  · have c4 := gb_t c4
    rcases isW_c c4 with rfl | rfl
    · refine lv_aload_n hx hb dX4_corners_13 rfl (lv_at hl 0 rfl) ?_
      refine g_cc (g_rV (As := []) hC hP (c_X4_knowCorners l hP (g := g) (by first | assumption | omega) (by first | assumption | omega)) hg.1 rfl ⟨q2_84, q2_81, q2_83, qs_9, q1_1⟩ dd_X4_knowCorners ⟨Nat.le_of_ble_eq_true rfl, Nat.le_of_ble_eq_true rfl, rfl, rfl⟩ hl.1 rfl (Nat.le_of_ble_eq_true rfl) dX4_corners_14 ⟨Nat.le_of_ble_eq_true rfl, Nat.le_of_ble_eq_true rfl⟩) hS (fun q h => h.elim (hTA q) (fun z => hA q (Nat.le_trans hS.1 z))) (fun r5 H1 locs2 hq6 hS hz3 hfr4 => ?_)
      obtain ⟨rfl, T7, J8, Q9, O10, Sr2, Sd2, hP, hE, hg2, hfr⟩ := hq6
      have hTA : ∀ q, (T7 q).1 ≠ 0 → A q := fun q hq => (hE q hq).elim (hTA q) (fun z => hA q (by first | (rw [hs]; exact z) | omega))
      obtain ⟨fr, sr, fd, sd, ar, ad, hgc⟩ := gt_C hg2 hg_hi8 hg_hi9
      obtain ⟨cr2, hcr2⟩ : ∃ x : CL, x = gsCr (gsI I g r d mr md) := ⟨_, rfl⟩
      obtain ⟨cd2, hcd2⟩ : ∃ x : CL, x = gsCd (gsI I g r d mr md) := ⟨_, rfl⟩
      have hg3 := hg2
      rw [← hcr2, ← hcd2] at hg2 hgc
      have hgc_c0 := hgc.1.2.2.1
      have hgc_f0 := hgc.1.2.2.2.1
      have hgc_c1 := hgc.2.1.2.2.1
      have hgc_f1 := hgc.2.1.2.2.2.1
      have hgc_r := hgc.2.2.2.2.2.2.1
      have hgc_d := hgc.2.2.2.2.2.2.2
      refine W.eq (g2 := F0 m 17 ls []) rfl ?_
      refine lv_aload_n hx hb dX4_corners_17 rfl (lv_at hl 0 rfl) ?_
      refine lv_iload_n hx hb dX4_corners_18 rfl (lv_at hl 1 rfl) ?_
      refine g_cp (g_rV (As := [.int (nI 0)]) hC hP (c_X4_player l hP (g := g) (w := 0) (by first | assumption | omega) (by first | assumption | omega)) hg2.1 rfl ⟨q1_166, q1_163, q1_165, qs_3, q1_1⟩ dd_X4_player ⟨Nat.le_of_ble_eq_true rfl, Nat.le_of_ble_eq_true rfl, rfl, rfl⟩ hl.1 rfl (Nat.le_of_ble_eq_true rfl) dX4_corners_19 ⟨Nat.le_of_ble_eq_true rfl, Nat.le_of_ble_eq_true rfl⟩) ?_
      refine W.eq (g2 := F0 m 22 ls [.ref r]) rfl ?_
      refine g_get hC hP hg2.2.2.2.2.2.2.2.2.1.1 rfl inX3 1 (by decide) q1_80 hg2.2.2.2.2.2.2.2.2.1.2.2.1 dX4_corners_22 ?_
      refine g_get hC hP hg2.2.2.2.2.2.2.2.2.2.2.2.2.1.1 rfl inX0 0 (by decide) q1_62 hgc.1.1 dX4_corners_25 ?_
      refine W.widen (k := 900) (n := 3600) (by omega) (by omega) ?_
      refine g_retci hC hS ?_ dX4_corners_28
      exact Or.inr (Or.inl ⟨rfl, by rw [← hcr2], gt_know hE hg3 hP⟩)
    · refine lv_aload_n hx hb dX4_corners_13 rfl (lv_at hl 0 rfl) ?_
      refine g_cc (g_rV (As := []) hC hP (c_X4_knowCorners l hP (g := g) (by first | assumption | omega) (by first | assumption | omega)) hg.1 rfl ⟨q2_84, q2_81, q2_83, qs_9, q1_1⟩ dd_X4_knowCorners ⟨Nat.le_of_ble_eq_true rfl, Nat.le_of_ble_eq_true rfl, rfl, rfl⟩ hl.1 rfl (Nat.le_of_ble_eq_true rfl) dX4_corners_14 ⟨Nat.le_of_ble_eq_true rfl, Nat.le_of_ble_eq_true rfl⟩) hS (fun q h => h.elim (hTA q) (fun z => hA q (Nat.le_trans hS.1 z))) (fun r15 H11 locs12 hq16 hS hz13 hfr14 => ?_)
      obtain ⟨rfl, T17, J18, Q19, O20, Sr2, Sd2, hP, hE, hg2, hfr⟩ := hq16
      have hTA : ∀ q, (T17 q).1 ≠ 0 → A q := fun q hq => (hE q hq).elim (hTA q) (fun z => hA q (by first | (rw [hs]; exact z) | omega))
      obtain ⟨fr, sr, fd, sd, ar, ad, hgc⟩ := gt_C hg2 hg_hi8 hg_hi9
      obtain ⟨cr2, hcr2⟩ : ∃ x : CL, x = gsCr (gsI I g r d mr md) := ⟨_, rfl⟩
      obtain ⟨cd2, hcd2⟩ : ∃ x : CL, x = gsCd (gsI I g r d mr md) := ⟨_, rfl⟩
      have hg3 := hg2
      rw [← hcr2, ← hcd2] at hg2 hgc
      have hgc_c0 := hgc.1.2.2.1
      have hgc_f0 := hgc.1.2.2.2.1
      have hgc_c1 := hgc.2.1.2.2.1
      have hgc_f1 := hgc.2.1.2.2.2.1
      have hgc_r := hgc.2.2.2.2.2.2.1
      have hgc_d := hgc.2.2.2.2.2.2.2
      refine W.eq (g2 := F0 m 17 ls []) rfl ?_
      refine lv_aload_n hx hb dX4_corners_17 rfl (lv_at hl 0 rfl) ?_
      refine lv_iload_n hx hb dX4_corners_18 rfl (lv_at hl 1 rfl) ?_
      refine g_cp (g_rV (As := [.int (nI 1)]) hC hP (c_X4_player l hP (g := g) (w := 1) (by first | assumption | omega) (by first | assumption | omega)) hg2.1 rfl ⟨q1_166, q1_163, q1_165, qs_3, q1_1⟩ dd_X4_player ⟨Nat.le_of_ble_eq_true rfl, Nat.le_of_ble_eq_true rfl, rfl, rfl⟩ hl.1 rfl (Nat.le_of_ble_eq_true rfl) dX4_corners_19 ⟨Nat.le_of_ble_eq_true rfl, Nat.le_of_ble_eq_true rfl⟩) ?_
      refine W.eq (g2 := F0 m 22 ls [.ref d]) rfl ?_
      refine g_get hC hP hg2.2.2.2.2.2.2.2.2.2.1.1 rfl inX3 1 (by decide) q1_80 hg2.2.2.2.2.2.2.2.2.2.1.2.2.1 dX4_corners_22 ?_
      refine g_get hC hP hg2.2.2.2.2.2.2.2.2.2.2.2.2.2.1.1 rfl inX0 0 (by decide) q1_62 hgc.2.1.1 dX4_corners_25 ?_
      refine W.widen (k := 900) (n := 3600) (by omega) (by omega) ?_
      refine g_retci hC hS ?_ dX4_corners_28
      exact Or.inr (Or.inr ⟨rfl, by rw [← hcd2], gt_know hE hg3 hP⟩)
  · have c4 := gb_f c4
    refine lv_aload_n hx hb dX4_corners_7 rfl (lv_at hl 0 rfl) ?_
    refine lv_iconst (v := (-1)) hx hb dX4_corners_8 (by decide) ?_
    refine g_cc (g_rV (As := [.int (-1 : Int32)]) hC hP (c_X4_refuse l hP (g := g) (q := (-1 : Int32)) (j := 1) (by first | assumption | omega) (by decide) (by omega)) hg.1 rfl ⟨q1_138, q1_135, q1_137, qs_0, q1_1⟩ dd_X4_refuse ⟨Nat.le_of_ble_eq_true rfl, Nat.le_of_ble_eq_true rfl, rfl, rfl⟩ hl.1 rfl (Nat.le_of_ble_eq_true rfl) dX4_corners_9 ⟨Nat.le_of_ble_eq_true rfl, Nat.le_of_ble_eq_true rfl⟩) hS (fun q h => h.elim (hTA q) (fun z => hA q (Nat.le_trans hS.1 z))) (fun r25 H21 locs22 hq26 hS hz23 hfr24 => ?_)
    obtain ⟨rfl, hP⟩ := hq26
    obtain ⟨I27, hI27, hP⟩ : ∃ I27 : gI, I27 = au I (g + 28) 1 (I (g + 28) 1 + 1) ∧ gP G T I27 J Q O H21 := ⟨_, rfl, hP⟩
    refine W.eq (g2 := F0 m 12 ls [.int (-1 : Int32)]) rfl ?_
    refine W.widen (k := 900) (n := 3600) (by omega) (by omega) ?_
    refine g_retci hC hS ?_ dX4_corners_12
    exact Or.inl ⟨c4, rfl, gt_ref hg hck hI27 hP⟩
set_option maxHeartbeats 4000000 in
set_option maxRecDepth 100000 in
theorem c_X4_corner (l : Launch) {G : gG} {T : gTy} {I : gI} {J : gJ} {Q : gR} {O : gO} {H : Heap} (hP : gP G T I J Q O H) {g r d mr md : Nat} {ck : Bool} {cr cd : CL} {Sr Sd : Nat → Prop} {q cc k f : Int32} (hg : isGT T J Q O g r d mr md ck cr cd Sr Sd) (hck : ckOK ck cr cd mr md (I (r + 9)) (I (d + 9))) : Met l yX4_corner (gw yX4_corner cX4_corner 6 (some (.int))) ({ frames := 7, cells := 900, slots := 3600, locals := 154 } : Room) (gPc G H [.ref g, .int q, .int cc, .int k, .int f]) (gQc (gF T H) (fun x H1 => rCorner (gsI I g r d mr md) (fun x1 s1 => x = some (.int x1) ∧ gtG G T H.size g s1 H1) q cc k f)) 900 3600 (gF T H) := by
  refine g_met [(0, .ref g), (1, .int q), (2, .int cc), (3, .int k), (4, .int f)] (by decide) rfl (by exact Nat.le_of_ble_eq_true rfl) ?_
  intro p e s m below meth c hC hs ls hl
  have hx := hC.1.1
  have hb := hC.1.2.1
  have hS : va_S (gF T H) s.heap H [] := hs ▸ va_S.rf
  have hTA : ∀ q, (T q).1 ≠ 0 → gF T H q := fun q h => Or.inl h
  have hA : ∀ q, s.heap.size ≤ q → gF T H q := fun q h => Or.inr (hs ▸ h)
  generalize hAe : gF T H = A at hS hTA hA ⊢
  have hg_lo8 := hg.2.2.2.2.2.2.2.2.1.2.2.2.2.2.2.2.2.1
  have hg_hi8 := hg.2.2.2.2.2.2.2.2.1.2.2.2.2.2.2.2.2.2
  have hg_lo9 := hg.2.2.2.2.2.2.2.2.2.1.2.2.2.2.2.2.2.2.1
  have hg_hi9 := hg.2.2.2.2.2.2.2.2.2.1.2.2.2.2.2.2.2.2.2
  have hg_ad := hg.2.2.2.2.2.2.2.2.2.2.2.2.2.2.2.2.1
  refine lv_iload_n hx hb dX4_corner_0 rfl (lv_at hl 1 rfl) ?_
  refine g_cp (g_rS (As := [.int q]) hC (c_X4_isWho l (q := q)) ⟨q1_153, q1_151, q1_152, q1_1⟩ dd_X4_isWho ⟨Nat.le_of_ble_eq_true rfl, Nat.le_of_ble_eq_true rfl, rfl, rfl⟩ hl.1 rfl (Nat.le_of_ble_eq_true rfl) dX4_corner_1 ⟨Nat.le_of_ble_eq_true rfl, Nat.le_of_ble_eq_true rfl⟩) ?_
  refine W.eq (g2 := F0 m 4 ls [.int (gb (isW q))]) rfl ?_
  refine lv_if_eq (tgt := 19) hx hb dX4_corner_4 (by decide) (fun c4 => ?_) (fun c4 => ?_)
  · have c4 := gb_f c4
    refine lv_aload_n hx hb dX4_corner_19 rfl (lv_at hl 0 rfl) ?_
    refine lv_iconst (v := (-1)) hx hb dX4_corner_20 (by decide) ?_
    refine g_cc (g_rV (As := [.int (-1 : Int32)]) hC hP (c_X4_refuse l hP (g := g) (q := (-1 : Int32)) (j := 1) (by first | assumption | omega) (by decide) (by omega)) hg.1 rfl ⟨q1_138, q1_135, q1_137, qs_0, q1_1⟩ dd_X4_refuse ⟨Nat.le_of_ble_eq_true rfl, Nat.le_of_ble_eq_true rfl, rfl, rfl⟩ hl.1 rfl (Nat.le_of_ble_eq_true rfl) dX4_corner_21 ⟨Nat.le_of_ble_eq_true rfl, Nat.le_of_ble_eq_true rfl⟩) hS (fun q h => h.elim (hTA q) (fun z => hA q (Nat.le_trans hS.1 z))) (fun r5 H1 locs2 hq6 hS hz3 hfr4 => ?_)
    obtain ⟨rfl, hP⟩ := hq6
    obtain ⟨I7, hI7, hP⟩ : ∃ I7 : gI, I7 = au I (g + 28) 1 (I (g + 28) 1 + 1) ∧ gP G T I7 J Q O H1 := ⟨_, rfl, hP⟩
    refine W.eq (g2 := F0 m 24 ls [.int (-1 : Int32)]) rfl ?_
    refine W.widen (k := 900) (n := 3600) (by omega) (by omega) ?_
    refine g_retci hC hS ?_ dX4_corner_24
    exact Or.inl ⟨Or.inl c4, rfl, gt_ref hg hck hI7 hP⟩
  · have c4 := gb_t c4
    rcases isW_c c4 with rfl | rfl
    · refine lv_aload_n hx hb dX4_corner_7 rfl (lv_at hl 0 rfl) ?_
      refine lv_iload_n hx hb dX4_corner_8 rfl (lv_at hl 1 rfl) ?_
      refine g_cp (g_rV (As := [.int (nI 0)]) hC hP (c_X4_player l hP (g := g) (w := 0) (by first | assumption | omega) (by first | assumption | omega)) hg.1 rfl ⟨q1_166, q1_163, q1_165, qs_3, q1_1⟩ dd_X4_player ⟨Nat.le_of_ble_eq_true rfl, Nat.le_of_ble_eq_true rfl, rfl, rfl⟩ hl.1 rfl (Nat.le_of_ble_eq_true rfl) dX4_corner_9 ⟨Nat.le_of_ble_eq_true rfl, Nat.le_of_ble_eq_true rfl⟩) ?_
      refine W.eq (g2 := F0 m 12 ls [.ref r]) rfl ?_
      refine lv_iload_n hx hb dX4_corner_12 rfl (lv_at hl 3 rfl) ?_
      refine g_cp (g_rV (As := [.int k]) hC hP (c_X3_hasChoice l hP (b := r) (ch := mr) (q := k) (by first | exact hg.2.2.2.2.2.2.2.2.1 | exact hg.2.2.2.2.2.2.2.2.2.1)) hg.2.2.2.2.2.2.2.2.1.1 rfl ⟨q1_157, q1_154, q1_155, q1_156, q1_2⟩ dd_X3_hasChoice ⟨Nat.le_of_ble_eq_true rfl, Nat.le_of_ble_eq_true rfl, rfl, rfl⟩ hl.1 rfl (Nat.le_of_ble_eq_true rfl) dX4_corner_13 ⟨Nat.le_of_ble_eq_true rfl, Nat.le_of_ble_eq_true rfl⟩) ?_
      refine W.eq (g2 := F0 m 16 ls [.int (gb (inR k mr))]) rfl ?_
      refine lv_if_ne (tgt := 25) hx hb dX4_corner_16 (by decide) (fun c16 => ?_) (fun c16 => ?_)
      · have c16 := gb_t c16
        obtain ⟨b, hbq, rfl⟩ := inR_nI (by omega) c16
        refine lv_aload_n hx hb dX4_corner_25 rfl (lv_at hl 0 rfl) ?_
        refine g_cc (g_rV (As := []) hC hP (c_X4_knowCorners l hP (g := g) (by first | assumption | omega) (by first | assumption | omega)) hg.1 rfl ⟨q2_84, q2_81, q2_83, qs_9, q1_1⟩ dd_X4_knowCorners ⟨Nat.le_of_ble_eq_true rfl, Nat.le_of_ble_eq_true rfl, rfl, rfl⟩ hl.1 rfl (Nat.le_of_ble_eq_true rfl) dX4_corner_26 ⟨Nat.le_of_ble_eq_true rfl, Nat.le_of_ble_eq_true rfl⟩) hS (fun q h => h.elim (hTA q) (fun z => hA q (Nat.le_trans hS.1 z))) (fun r12 H8 locs9 hq13 hS hz10 hfr11 => ?_)
        obtain ⟨rfl, T14, J15, Q16, O17, Sr2, Sd2, hP, hE, hg2, hfr⟩ := hq13
        have hTA : ∀ q, (T14 q).1 ≠ 0 → A q := fun q hq => (hE q hq).elim (hTA q) (fun z => hA q (by first | (rw [hs]; exact z) | omega))
        obtain ⟨fr, sr, fd, sd, ar, ad, hgc⟩ := gt_C hg2 hg_hi8 hg_hi9
        obtain ⟨cr2, hcr2⟩ : ∃ x : CL, x = gsCr (gsI I g r d mr md) := ⟨_, rfl⟩
        obtain ⟨cd2, hcd2⟩ : ∃ x : CL, x = gsCd (gsI I g r d mr md) := ⟨_, rfl⟩
        have hg3 := hg2
        rw [← hcr2, ← hcd2] at hg2 hgc
        have hgc_c0 := hgc.1.2.2.1
        have hgc_f0 := hgc.1.2.2.2.1
        have hgc_c1 := hgc.2.1.2.2.1
        have hgc_f1 := hgc.2.1.2.2.2.1
        have hgc_r := hgc.2.2.2.2.2.2.1
        have hgc_d := hgc.2.2.2.2.2.2.2
        refine W.eq (g2 := F0 m 29 ls []) rfl ?_
        refine lv_aload_n hx hb dX4_corner_29 rfl (lv_at hl 0 rfl) ?_
        refine lv_iload_n hx hb dX4_corner_30 rfl (lv_at hl 1 rfl) ?_
        refine g_cp (g_rV (As := [.int (nI 0)]) hC hP (c_X4_player l hP (g := g) (w := 0) (by first | assumption | omega) (by first | assumption | omega)) hg2.1 rfl ⟨q1_166, q1_163, q1_165, qs_3, q1_1⟩ dd_X4_player ⟨Nat.le_of_ble_eq_true rfl, Nat.le_of_ble_eq_true rfl, rfl, rfl⟩ hl.1 rfl (Nat.le_of_ble_eq_true rfl) dX4_corner_31 ⟨Nat.le_of_ble_eq_true rfl, Nat.le_of_ble_eq_true rfl⟩) ?_
        refine W.eq (g2 := F0 m 34 ls [.ref r]) rfl ?_
        refine g_get hC hP hg2.2.2.2.2.2.2.2.2.1.1 rfl inX3 1 (by decide) q1_80 hg2.2.2.2.2.2.2.2.2.1.2.2.1 dX4_corner_34 ?_
        cases hin : inR cc cr2.1
        · refine lv_iload_n hx hb dX4_corner_37 rfl (lv_at hl 2 rfl) ?_
          refine g_cp (g_rV (As := [.int cc]) hC hP (c_X0_mixAt_out l hP (k := r + 1) (cnt := cr2.1) (fill := fr) (sp := sr) (ad := ar) (q := cc) hg2.2.2.2.2.2.2.2.2.2.2.2.2.1 hgc.1 hin) hg2.2.2.2.2.2.2.2.2.2.2.2.2.1.1 rfl ⟨q2_153, q2_150, q2_151, q2_152, q1_3⟩ dd_X0_mixAt ⟨Nat.le_of_ble_eq_true rfl, Nat.le_of_ble_eq_true rfl, rfl, rfl⟩ hl.1 rfl (Nat.le_of_ble_eq_true rfl) dX4_corner_38 ⟨Nat.le_of_ble_eq_true rfl, Nat.le_of_ble_eq_true rfl⟩) ?_
          refine W.eq (g2 := F0 m 41 ls [.null]) rfl ?_
          refine lv_astoreN (lv' := [(5, .null), (0, .ref g), (1, .int (nI 0)), (2, .int cc), (3, .int (nI b)), (4, .int f)]) hx hb dX4_corner_41 hl (by decide) rfl (fun ls hl => ?_)
          refine lv_aloadN hx hb dX4_corner_43 (lv_at hl 0 rfl) ?_
          refine lv_ifnonnullN hx hb dX4_corner_45 ?_
          refine lv_aload_n hx hb dX4_corner_48 rfl (lv_at hl 1 rfl) ?_
          refine lv_iconst (v := (-1)) hx hb dX4_corner_49 (by decide) ?_
          refine g_cc (g_rV (As := [.int (-1 : Int32)]) hC hP (c_X4_refuse l hP (g := g) (q := (-1 : Int32)) (j := 1) (by first | assumption | omega) (by decide) (by omega)) hg2.1 rfl ⟨q1_138, q1_135, q1_137, qs_0, q1_1⟩ dd_X4_refuse ⟨Nat.le_of_ble_eq_true rfl, Nat.le_of_ble_eq_true rfl, rfl, rfl⟩ hl.1 rfl (Nat.le_of_ble_eq_true rfl) dX4_corner_50 ⟨Nat.le_of_ble_eq_true rfl, Nat.le_of_ble_eq_true rfl⟩) hS (fun q h => h.elim (hTA q) (fun z => hA q (Nat.le_trans hS.1 z))) (fun r22 H18 locs19 hq23 hS hz20 hfr21 => ?_)
          obtain ⟨rfl, hP⟩ := hq23
          obtain ⟨I24, hI24, hP⟩ : ∃ I24 : gI, I24 = au I (g + 28) 1 (I (g + 28) 1 + 1) ∧ gP G T14 I24 J15 Q16 O17 H18 := ⟨_, rfl, hP⟩
          refine W.eq (g2 := F0 m 53 ls [.int (-1 : Int32)]) rfl ?_
          refine W.widen (k := 900) (n := 3600) (by omega) (by omega) ?_
          refine g_retci hC hS ?_ dX4_corner_53
          refine Or.inr ⟨b, rfl, Or.inl ⟨rfl, hbq, ?_⟩⟩
          rw [← hcr2]
          exact Or.inl ⟨hin, rfl, gt_kref hE hg3 hI24 hP⟩
        · obtain ⟨a, ha, rfl⟩ := inR_nI (by omega) hin
          have hmr24 := (hgc.1.2.2.2.2.2.2.1 a (by omega)).1
          have hvr25 := (hgc.2.2.1 a (by omega)).2
          have hkr26 := hgc.2.2.2.2.1 a (by omega)
          refine lv_iload_n hx hb dX4_corner_37 rfl (lv_at hl 2 rfl) ?_
          refine g_cp (g_rV (As := [.int (nI a)]) hC hP (c_X0_mixAt_in l hP (k := r + 1) (cnt := cr2.1) (fill := fr) (sp := sr) (j := a) (ad := ar) hg2.2.2.2.2.2.2.2.2.2.2.2.2.1 hgc.1 ha) hg2.2.2.2.2.2.2.2.2.2.2.2.2.1.1 rfl ⟨q2_153, q2_150, q2_151, q2_152, q1_3⟩ dd_X0_mixAt ⟨Nat.le_of_ble_eq_true rfl, Nat.le_of_ble_eq_true rfl, rfl, rfl⟩ hl.1 rfl (Nat.le_of_ble_eq_true rfl) dX4_corner_38 ⟨Nat.le_of_ble_eq_true rfl, Nat.le_of_ble_eq_true rfl⟩) ?_
          refine W.eq (g2 := F0 m 41 ls [.ref (ar a)]) rfl ?_
          refine lv_astore (lv' := [(5, .ref (ar a)), (0, .ref g), (1, .int (nI 0)), (2, .int (nI a)), (3, .int (nI b)), (4, .int f)]) hx hb dX4_corner_41 hl (by decide) rfl (fun ls hl => ?_)
          refine lv_aload hx hb dX4_corner_43 (lv_at hl 0 rfl) ?_
          refine lv_ifnonnull (tgt := 54) hx hb dX4_corner_45 (by decide) ?_
          refine lv_iload hx hb dX4_corner_54 (lv_at hl 5 rfl) ?_
          refine lv_if_lt (tgt := 65) hx hb dX4_corner_56 (by decide) (fun c56 => ?_) (fun c56 => ?_)
          · refine lv_aload_n hx hb dX4_corner_65 rfl (lv_at hl 1 rfl) ?_
            refine lv_bipush (v := (-2)) hx hb dX4_corner_66 (by decide) ?_
            refine g_cc (g_rV (As := [.int (-2 : Int32)]) hC hP (c_X4_refuse l hP (g := g) (q := (-2 : Int32)) (j := 2) (by first | assumption | omega) (by decide) (by omega)) hg2.1 rfl ⟨q1_138, q1_135, q1_137, qs_0, q1_1⟩ dd_X4_refuse ⟨Nat.le_of_ble_eq_true rfl, Nat.le_of_ble_eq_true rfl, rfl, rfl⟩ hl.1 rfl (Nat.le_of_ble_eq_true rfl) dX4_corner_68 ⟨Nat.le_of_ble_eq_true rfl, Nat.le_of_ble_eq_true rfl⟩) hS (fun q h => h.elim (hTA q) (fun z => hA q (Nat.le_trans hS.1 z))) (fun r32 H28 locs29 hq33 hS hz30 hfr31 => ?_)
            obtain ⟨rfl, hP⟩ := hq33
            obtain ⟨I34, hI34, hP⟩ : ∃ I34 : gI, I34 = au I (g + 28) 2 (I (g + 28) 2 + 1) ∧ gP G T14 I34 J15 Q16 O17 H28 := ⟨_, rfl, hP⟩
            refine W.eq (g2 := F0 m 71 ls [.int (-2 : Int32)]) rfl ?_
            refine W.widen (k := 900) (n := 3600) (by omega) (by omega) ?_
            refine g_retci hC hS ?_ dX4_corner_71
            refine Or.inr ⟨b, rfl, Or.inl ⟨rfl, hbq, ?_⟩⟩
            rw [← hcr2]
            exact Or.inr (Or.inl ⟨hin, (by first | exact Or.inl c56 | exact Or.inr (Int32.not_le.mp c62)), rfl, gt_kref hE hg3 hI34 hP⟩)
          · refine lv_iload hx hb dX4_corner_59 (lv_at hl 5 rfl) ?_
            refine lv_iconst (v := nI 2) hx hb dX4_corner_61 (by decide) ?_
            refine lv_icmp_le (tgt := 72) hx hb dX4_corner_62 (by decide) (fun c62 => ?_) (fun c62 => ?_)
            · refine lv_iload hx hb dX4_corner_72 (lv_at hl 5 rfl) ?_
              refine lv_iconst (v := nI 2) hx hb dX4_corner_74 (by decide) ?_
              refine lv_icmp_ne (tgt := 86) hx hb dX4_corner_75 (by decide) (fun c75 => ?_) (fun c75 => ?_)
              · refine lv_aload hx hb dX4_corner_86 (lv_at hl 0 rfl) ?_
                refine g_get hC hP hmr24.1 rfl inX2 0 (by decide) q1_39 hmr24.2.1 dX4_corner_88 ?_
                refine lv_iload_n hx hb dX4_corner_91 rfl (lv_at hl 4 rfl) ?_
                refine g_lald hC hP hmr24.2.2 (vp_in_nI (by omega) (by decide)) dX4_corner_92 ?_
                refine g_topl (y := J15 ((ar a) + 1) b) (congrArg (J15 ((ar a) + 1)) (nI_clamp (by omega))) ?_
                refine lv_aload hx hb dX4_corner_93 (lv_at hl 0 rfl) ?_
                refine g_get hC hP hmr24.1 rfl inX2 1 (by decide) q1_42 hvr25.1 dX4_corner_95 ?_
                refine lv_iload hx hb dX4_corner_98 (lv_at hl 5 rfl) ?_
                refine g_cp (g_rS (As := [.long (J15 ((ar a) + 1) b), .long ((cr2.2 a).2.1), .int f]) hC (c_X4_lowest l (a := J15 ((ar a) + 1) b) (d := (cr2.2 a).2.1) (q := f)) ⟨q1_223, q2_154, q1_222, q1_1⟩ dd_X4_lowest ⟨Nat.le_of_ble_eq_true rfl, Nat.le_of_ble_eq_true rfl, rfl, rfl⟩ hl.1 rfl (Nat.le_of_ble_eq_true rfl) dX4_corner_100 ⟨Nat.le_of_ble_eq_true rfl, Nat.le_of_ble_eq_true rfl⟩) ?_
                refine W.eq (g2 := F0 m 103 ls [.long (lowS (J15 ((ar a) + 1) b) ((cr2.2 a).2.1) f)]) rfl ?_
                refine lv_l2i hx hb dX4_corner_103 rfl ?_
                refine W.widen (k := 900) (n := 3600) (by omega) (by omega) ?_
                refine g_retci hC hS ?_ dX4_corner_104
                refine Or.inr ⟨b, rfl, Or.inl ⟨rfl, hbq, ?_⟩⟩
                rw [← hcr2]
                refine Or.inr (Or.inr ⟨a, ha, rfl, c56, Int32.not_lt.mpr c62, ?_⟩)
                first | exact Or.inl ⟨c75, rfl, gt_know hE hg3 hP⟩ | exact Or.inr ⟨c75, by rw [← (hgc.2.2.1 a (by omega)).1 b (by omega)], gt_know hE hg3 hP⟩
              · refine lv_aload hx hb dX4_corner_78 (lv_at hl 0 rfl) ?_
                refine g_get hC hP hmr24.1 rfl inX2 3 (by decide) q1_47 hvr25.2.2 dX4_corner_80 ?_
                refine lv_goto (tgt := 104) hx hb dX4_corner_83 (by decide) ?_
                refine W.widen (k := 900) (n := 3600) (by omega) (by omega) ?_
                refine g_retci hC hS ?_ dX4_corner_104
                refine Or.inr ⟨b, rfl, Or.inl ⟨rfl, hbq, ?_⟩⟩
                rw [← hcr2]
                refine Or.inr (Or.inr ⟨a, ha, rfl, c56, Int32.not_lt.mpr c62, ?_⟩)
                first | exact Or.inl ⟨c75, rfl, gt_know hE hg3 hP⟩ | exact Or.inr ⟨c75, by rw [← (hgc.2.2.1 a (by omega)).1 b (by omega)], gt_know hE hg3 hP⟩
            · refine lv_aload_n hx hb dX4_corner_65 rfl (lv_at hl 1 rfl) ?_
              refine lv_bipush (v := (-2)) hx hb dX4_corner_66 (by decide) ?_
              refine g_cc (g_rV (As := [.int (-2 : Int32)]) hC hP (c_X4_refuse l hP (g := g) (q := (-2 : Int32)) (j := 2) (by first | assumption | omega) (by decide) (by omega)) hg2.1 rfl ⟨q1_138, q1_135, q1_137, qs_0, q1_1⟩ dd_X4_refuse ⟨Nat.le_of_ble_eq_true rfl, Nat.le_of_ble_eq_true rfl, rfl, rfl⟩ hl.1 rfl (Nat.le_of_ble_eq_true rfl) dX4_corner_68 ⟨Nat.le_of_ble_eq_true rfl, Nat.le_of_ble_eq_true rfl⟩) hS (fun q h => h.elim (hTA q) (fun z => hA q (Nat.le_trans hS.1 z))) (fun r39 H35 locs36 hq40 hS hz37 hfr38 => ?_)
              obtain ⟨rfl, hP⟩ := hq40
              obtain ⟨I41, hI41, hP⟩ : ∃ I41 : gI, I41 = au I (g + 28) 2 (I (g + 28) 2 + 1) ∧ gP G T14 I41 J15 Q16 O17 H35 := ⟨_, rfl, hP⟩
              refine W.eq (g2 := F0 m 71 ls [.int (-2 : Int32)]) rfl ?_
              refine W.widen (k := 900) (n := 3600) (by omega) (by omega) ?_
              refine g_retci hC hS ?_ dX4_corner_71
              refine Or.inr ⟨b, rfl, Or.inl ⟨rfl, hbq, ?_⟩⟩
              rw [← hcr2]
              exact Or.inr (Or.inl ⟨hin, (by first | exact Or.inl c56 | exact Or.inr (Int32.not_le.mp c62)), rfl, gt_kref hE hg3 hI41 hP⟩)
      · have c16 := gb_f c16
        refine lv_aload_n hx hb dX4_corner_19 rfl (lv_at hl 0 rfl) ?_
        refine lv_iconst (v := (-1)) hx hb dX4_corner_20 (by decide) ?_
        refine g_cc (g_rV (As := [.int (-1 : Int32)]) hC hP (c_X4_refuse l hP (g := g) (q := (-1 : Int32)) (j := 1) (by first | assumption | omega) (by decide) (by omega)) hg.1 rfl ⟨q1_138, q1_135, q1_137, qs_0, q1_1⟩ dd_X4_refuse ⟨Nat.le_of_ble_eq_true rfl, Nat.le_of_ble_eq_true rfl, rfl, rfl⟩ hl.1 rfl (Nat.le_of_ble_eq_true rfl) dX4_corner_21 ⟨Nat.le_of_ble_eq_true rfl, Nat.le_of_ble_eq_true rfl⟩) hS (fun q h => h.elim (hTA q) (fun z => hA q (Nat.le_trans hS.1 z))) (fun r46 H42 locs43 hq47 hS hz44 hfr45 => ?_)
        obtain ⟨rfl, hP⟩ := hq47
        obtain ⟨I48, hI48, hP⟩ : ∃ I48 : gI, I48 = au I (g + 28) 1 (I (g + 28) 1 + 1) ∧ gP G T I48 J Q O H42 := ⟨_, rfl, hP⟩
        refine W.eq (g2 := F0 m 24 ls [.int (-1 : Int32)]) rfl ?_
        refine W.widen (k := 900) (n := 3600) (by omega) (by omega) ?_
        refine g_retci hC hS ?_ dX4_corner_24
        exact Or.inl ⟨Or.inr (Or.inl ⟨rfl, c16⟩), rfl, gt_ref hg hck hI48 hP⟩
    · refine lv_aload_n hx hb dX4_corner_7 rfl (lv_at hl 0 rfl) ?_
      refine lv_iload_n hx hb dX4_corner_8 rfl (lv_at hl 1 rfl) ?_
      refine g_cp (g_rV (As := [.int (nI 1)]) hC hP (c_X4_player l hP (g := g) (w := 1) (by first | assumption | omega) (by first | assumption | omega)) hg.1 rfl ⟨q1_166, q1_163, q1_165, qs_3, q1_1⟩ dd_X4_player ⟨Nat.le_of_ble_eq_true rfl, Nat.le_of_ble_eq_true rfl, rfl, rfl⟩ hl.1 rfl (Nat.le_of_ble_eq_true rfl) dX4_corner_9 ⟨Nat.le_of_ble_eq_true rfl, Nat.le_of_ble_eq_true rfl⟩) ?_
      refine W.eq (g2 := F0 m 12 ls [.ref d]) rfl ?_
      refine lv_iload_n hx hb dX4_corner_12 rfl (lv_at hl 3 rfl) ?_
      refine g_cp (g_rV (As := [.int k]) hC hP (c_X3_hasChoice l hP (b := d) (ch := md) (q := k) (by first | exact hg.2.2.2.2.2.2.2.2.1 | exact hg.2.2.2.2.2.2.2.2.2.1)) hg.2.2.2.2.2.2.2.2.2.1.1 rfl ⟨q1_157, q1_154, q1_155, q1_156, q1_2⟩ dd_X3_hasChoice ⟨Nat.le_of_ble_eq_true rfl, Nat.le_of_ble_eq_true rfl, rfl, rfl⟩ hl.1 rfl (Nat.le_of_ble_eq_true rfl) dX4_corner_13 ⟨Nat.le_of_ble_eq_true rfl, Nat.le_of_ble_eq_true rfl⟩) ?_
      refine W.eq (g2 := F0 m 16 ls [.int (gb (inR k md))]) rfl ?_
      refine lv_if_ne (tgt := 25) hx hb dX4_corner_16 (by decide) (fun c16 => ?_) (fun c16 => ?_)
      · have c16 := gb_t c16
        obtain ⟨b, hbq, rfl⟩ := inR_nI (by omega) c16
        refine lv_aload_n hx hb dX4_corner_25 rfl (lv_at hl 0 rfl) ?_
        refine g_cc (g_rV (As := []) hC hP (c_X4_knowCorners l hP (g := g) (by first | assumption | omega) (by first | assumption | omega)) hg.1 rfl ⟨q2_84, q2_81, q2_83, qs_9, q1_1⟩ dd_X4_knowCorners ⟨Nat.le_of_ble_eq_true rfl, Nat.le_of_ble_eq_true rfl, rfl, rfl⟩ hl.1 rfl (Nat.le_of_ble_eq_true rfl) dX4_corner_26 ⟨Nat.le_of_ble_eq_true rfl, Nat.le_of_ble_eq_true rfl⟩) hS (fun q h => h.elim (hTA q) (fun z => hA q (Nat.le_trans hS.1 z))) (fun r53 H49 locs50 hq54 hS hz51 hfr52 => ?_)
        obtain ⟨rfl, T55, J56, Q57, O58, Sr2, Sd2, hP, hE, hg2, hfr⟩ := hq54
        have hTA : ∀ q, (T55 q).1 ≠ 0 → A q := fun q hq => (hE q hq).elim (hTA q) (fun z => hA q (by first | (rw [hs]; exact z) | omega))
        obtain ⟨fr, sr, fd, sd, ar, ad, hgc⟩ := gt_C hg2 hg_hi8 hg_hi9
        obtain ⟨cr2, hcr2⟩ : ∃ x : CL, x = gsCr (gsI I g r d mr md) := ⟨_, rfl⟩
        obtain ⟨cd2, hcd2⟩ : ∃ x : CL, x = gsCd (gsI I g r d mr md) := ⟨_, rfl⟩
        have hg3 := hg2
        rw [← hcr2, ← hcd2] at hg2 hgc
        have hgc_c0 := hgc.1.2.2.1
        have hgc_f0 := hgc.1.2.2.2.1
        have hgc_c1 := hgc.2.1.2.2.1
        have hgc_f1 := hgc.2.1.2.2.2.1
        have hgc_r := hgc.2.2.2.2.2.2.1
        have hgc_d := hgc.2.2.2.2.2.2.2
        refine W.eq (g2 := F0 m 29 ls []) rfl ?_
        refine lv_aload_n hx hb dX4_corner_29 rfl (lv_at hl 0 rfl) ?_
        refine lv_iload_n hx hb dX4_corner_30 rfl (lv_at hl 1 rfl) ?_
        refine g_cp (g_rV (As := [.int (nI 1)]) hC hP (c_X4_player l hP (g := g) (w := 1) (by first | assumption | omega) (by first | assumption | omega)) hg2.1 rfl ⟨q1_166, q1_163, q1_165, qs_3, q1_1⟩ dd_X4_player ⟨Nat.le_of_ble_eq_true rfl, Nat.le_of_ble_eq_true rfl, rfl, rfl⟩ hl.1 rfl (Nat.le_of_ble_eq_true rfl) dX4_corner_31 ⟨Nat.le_of_ble_eq_true rfl, Nat.le_of_ble_eq_true rfl⟩) ?_
        refine W.eq (g2 := F0 m 34 ls [.ref d]) rfl ?_
        refine g_get hC hP hg2.2.2.2.2.2.2.2.2.2.1.1 rfl inX3 1 (by decide) q1_80 hg2.2.2.2.2.2.2.2.2.2.1.2.2.1 dX4_corner_34 ?_
        cases hin : inR cc cd2.1
        · refine lv_iload_n hx hb dX4_corner_37 rfl (lv_at hl 2 rfl) ?_
          refine g_cp (g_rV (As := [.int cc]) hC hP (c_X0_mixAt_out l hP (k := d + 1) (cnt := cd2.1) (fill := fd) (sp := sd) (ad := ad) (q := cc) hg2.2.2.2.2.2.2.2.2.2.2.2.2.2.1 hgc.2.1 hin) hg2.2.2.2.2.2.2.2.2.2.2.2.2.2.1.1 rfl ⟨q2_153, q2_150, q2_151, q2_152, q1_3⟩ dd_X0_mixAt ⟨Nat.le_of_ble_eq_true rfl, Nat.le_of_ble_eq_true rfl, rfl, rfl⟩ hl.1 rfl (Nat.le_of_ble_eq_true rfl) dX4_corner_38 ⟨Nat.le_of_ble_eq_true rfl, Nat.le_of_ble_eq_true rfl⟩) ?_
          refine W.eq (g2 := F0 m 41 ls [.null]) rfl ?_
          refine lv_astoreN (lv' := [(5, .null), (0, .ref g), (1, .int (nI 1)), (2, .int cc), (3, .int (nI b)), (4, .int f)]) hx hb dX4_corner_41 hl (by decide) rfl (fun ls hl => ?_)
          refine lv_aloadN hx hb dX4_corner_43 (lv_at hl 0 rfl) ?_
          refine lv_ifnonnullN hx hb dX4_corner_45 ?_
          refine lv_aload_n hx hb dX4_corner_48 rfl (lv_at hl 1 rfl) ?_
          refine lv_iconst (v := (-1)) hx hb dX4_corner_49 (by decide) ?_
          refine g_cc (g_rV (As := [.int (-1 : Int32)]) hC hP (c_X4_refuse l hP (g := g) (q := (-1 : Int32)) (j := 1) (by first | assumption | omega) (by decide) (by omega)) hg2.1 rfl ⟨q1_138, q1_135, q1_137, qs_0, q1_1⟩ dd_X4_refuse ⟨Nat.le_of_ble_eq_true rfl, Nat.le_of_ble_eq_true rfl, rfl, rfl⟩ hl.1 rfl (Nat.le_of_ble_eq_true rfl) dX4_corner_50 ⟨Nat.le_of_ble_eq_true rfl, Nat.le_of_ble_eq_true rfl⟩) hS (fun q h => h.elim (hTA q) (fun z => hA q (Nat.le_trans hS.1 z))) (fun r63 H59 locs60 hq64 hS hz61 hfr62 => ?_)
          obtain ⟨rfl, hP⟩ := hq64
          obtain ⟨I65, hI65, hP⟩ : ∃ I65 : gI, I65 = au I (g + 28) 1 (I (g + 28) 1 + 1) ∧ gP G T55 I65 J56 Q57 O58 H59 := ⟨_, rfl, hP⟩
          refine W.eq (g2 := F0 m 53 ls [.int (-1 : Int32)]) rfl ?_
          refine W.widen (k := 900) (n := 3600) (by omega) (by omega) ?_
          refine g_retci hC hS ?_ dX4_corner_53
          refine Or.inr ⟨b, rfl, Or.inr ⟨rfl, hbq, ?_⟩⟩
          rw [← hcd2]
          exact Or.inl ⟨hin, rfl, gt_kref hE hg3 hI65 hP⟩
        · obtain ⟨a, ha, rfl⟩ := inR_nI (by omega) hin
          have hmd65 := (hgc.2.1.2.2.2.2.2.2.1 a (by omega)).1
          have hvd66 := (hgc.2.2.2.1 a (by omega)).2
          have hkd67 := hgc.2.2.2.2.2.1 a (by omega)
          refine lv_iload_n hx hb dX4_corner_37 rfl (lv_at hl 2 rfl) ?_
          refine g_cp (g_rV (As := [.int (nI a)]) hC hP (c_X0_mixAt_in l hP (k := d + 1) (cnt := cd2.1) (fill := fd) (sp := sd) (j := a) (ad := ad) hg2.2.2.2.2.2.2.2.2.2.2.2.2.2.1 hgc.2.1 ha) hg2.2.2.2.2.2.2.2.2.2.2.2.2.2.1.1 rfl ⟨q2_153, q2_150, q2_151, q2_152, q1_3⟩ dd_X0_mixAt ⟨Nat.le_of_ble_eq_true rfl, Nat.le_of_ble_eq_true rfl, rfl, rfl⟩ hl.1 rfl (Nat.le_of_ble_eq_true rfl) dX4_corner_38 ⟨Nat.le_of_ble_eq_true rfl, Nat.le_of_ble_eq_true rfl⟩) ?_
          refine W.eq (g2 := F0 m 41 ls [.ref (ad a)]) rfl ?_
          refine lv_astore (lv' := [(5, .ref (ad a)), (0, .ref g), (1, .int (nI 1)), (2, .int (nI a)), (3, .int (nI b)), (4, .int f)]) hx hb dX4_corner_41 hl (by decide) rfl (fun ls hl => ?_)
          refine lv_aload hx hb dX4_corner_43 (lv_at hl 0 rfl) ?_
          refine lv_ifnonnull (tgt := 54) hx hb dX4_corner_45 (by decide) ?_
          refine lv_iload hx hb dX4_corner_54 (lv_at hl 5 rfl) ?_
          refine lv_if_lt (tgt := 65) hx hb dX4_corner_56 (by decide) (fun c56 => ?_) (fun c56 => ?_)
          · refine lv_aload_n hx hb dX4_corner_65 rfl (lv_at hl 1 rfl) ?_
            refine lv_bipush (v := (-2)) hx hb dX4_corner_66 (by decide) ?_
            refine g_cc (g_rV (As := [.int (-2 : Int32)]) hC hP (c_X4_refuse l hP (g := g) (q := (-2 : Int32)) (j := 2) (by first | assumption | omega) (by decide) (by omega)) hg2.1 rfl ⟨q1_138, q1_135, q1_137, qs_0, q1_1⟩ dd_X4_refuse ⟨Nat.le_of_ble_eq_true rfl, Nat.le_of_ble_eq_true rfl, rfl, rfl⟩ hl.1 rfl (Nat.le_of_ble_eq_true rfl) dX4_corner_68 ⟨Nat.le_of_ble_eq_true rfl, Nat.le_of_ble_eq_true rfl⟩) hS (fun q h => h.elim (hTA q) (fun z => hA q (Nat.le_trans hS.1 z))) (fun r73 H69 locs70 hq74 hS hz71 hfr72 => ?_)
            obtain ⟨rfl, hP⟩ := hq74
            obtain ⟨I75, hI75, hP⟩ : ∃ I75 : gI, I75 = au I (g + 28) 2 (I (g + 28) 2 + 1) ∧ gP G T55 I75 J56 Q57 O58 H69 := ⟨_, rfl, hP⟩
            refine W.eq (g2 := F0 m 71 ls [.int (-2 : Int32)]) rfl ?_
            refine W.widen (k := 900) (n := 3600) (by omega) (by omega) ?_
            refine g_retci hC hS ?_ dX4_corner_71
            refine Or.inr ⟨b, rfl, Or.inr ⟨rfl, hbq, ?_⟩⟩
            rw [← hcd2]
            exact Or.inr (Or.inl ⟨hin, (by first | exact Or.inl c56 | exact Or.inr (Int32.not_le.mp c62)), rfl, gt_kref hE hg3 hI75 hP⟩)
          · refine lv_iload hx hb dX4_corner_59 (lv_at hl 5 rfl) ?_
            refine lv_iconst (v := nI 2) hx hb dX4_corner_61 (by decide) ?_
            refine lv_icmp_le (tgt := 72) hx hb dX4_corner_62 (by decide) (fun c62 => ?_) (fun c62 => ?_)
            · refine lv_iload hx hb dX4_corner_72 (lv_at hl 5 rfl) ?_
              refine lv_iconst (v := nI 2) hx hb dX4_corner_74 (by decide) ?_
              refine lv_icmp_ne (tgt := 86) hx hb dX4_corner_75 (by decide) (fun c75 => ?_) (fun c75 => ?_)
              · refine lv_aload hx hb dX4_corner_86 (lv_at hl 0 rfl) ?_
                refine g_get hC hP hmd65.1 rfl inX2 0 (by decide) q1_39 hmd65.2.1 dX4_corner_88 ?_
                refine lv_iload_n hx hb dX4_corner_91 rfl (lv_at hl 4 rfl) ?_
                refine g_lald hC hP hmd65.2.2 (vp_in_nI (by omega) (by decide)) dX4_corner_92 ?_
                refine g_topl (y := J56 ((ad a) + 1) b) (congrArg (J56 ((ad a) + 1)) (nI_clamp (by omega))) ?_
                refine lv_aload hx hb dX4_corner_93 (lv_at hl 0 rfl) ?_
                refine g_get hC hP hmd65.1 rfl inX2 1 (by decide) q1_42 hvd66.1 dX4_corner_95 ?_
                refine lv_iload hx hb dX4_corner_98 (lv_at hl 5 rfl) ?_
                refine g_cp (g_rS (As := [.long (J56 ((ad a) + 1) b), .long ((cd2.2 a).2.1), .int f]) hC (c_X4_lowest l (a := J56 ((ad a) + 1) b) (d := (cd2.2 a).2.1) (q := f)) ⟨q1_223, q2_154, q1_222, q1_1⟩ dd_X4_lowest ⟨Nat.le_of_ble_eq_true rfl, Nat.le_of_ble_eq_true rfl, rfl, rfl⟩ hl.1 rfl (Nat.le_of_ble_eq_true rfl) dX4_corner_100 ⟨Nat.le_of_ble_eq_true rfl, Nat.le_of_ble_eq_true rfl⟩) ?_
                refine W.eq (g2 := F0 m 103 ls [.long (lowS (J56 ((ad a) + 1) b) ((cd2.2 a).2.1) f)]) rfl ?_
                refine lv_l2i hx hb dX4_corner_103 rfl ?_
                refine W.widen (k := 900) (n := 3600) (by omega) (by omega) ?_
                refine g_retci hC hS ?_ dX4_corner_104
                refine Or.inr ⟨b, rfl, Or.inr ⟨rfl, hbq, ?_⟩⟩
                rw [← hcd2]
                refine Or.inr (Or.inr ⟨a, ha, rfl, c56, Int32.not_lt.mpr c62, ?_⟩)
                first | exact Or.inl ⟨c75, rfl, gt_know hE hg3 hP⟩ | exact Or.inr ⟨c75, by rw [← (hgc.2.2.2.1 a (by omega)).1 b (by omega)], gt_know hE hg3 hP⟩
              · refine lv_aload hx hb dX4_corner_78 (lv_at hl 0 rfl) ?_
                refine g_get hC hP hmd65.1 rfl inX2 3 (by decide) q1_47 hvd66.2.2 dX4_corner_80 ?_
                refine lv_goto (tgt := 104) hx hb dX4_corner_83 (by decide) ?_
                refine W.widen (k := 900) (n := 3600) (by omega) (by omega) ?_
                refine g_retci hC hS ?_ dX4_corner_104
                refine Or.inr ⟨b, rfl, Or.inr ⟨rfl, hbq, ?_⟩⟩
                rw [← hcd2]
                refine Or.inr (Or.inr ⟨a, ha, rfl, c56, Int32.not_lt.mpr c62, ?_⟩)
                first | exact Or.inl ⟨c75, rfl, gt_know hE hg3 hP⟩ | exact Or.inr ⟨c75, by rw [← (hgc.2.2.2.1 a (by omega)).1 b (by omega)], gt_know hE hg3 hP⟩
            · refine lv_aload_n hx hb dX4_corner_65 rfl (lv_at hl 1 rfl) ?_
              refine lv_bipush (v := (-2)) hx hb dX4_corner_66 (by decide) ?_
              refine g_cc (g_rV (As := [.int (-2 : Int32)]) hC hP (c_X4_refuse l hP (g := g) (q := (-2 : Int32)) (j := 2) (by first | assumption | omega) (by decide) (by omega)) hg2.1 rfl ⟨q1_138, q1_135, q1_137, qs_0, q1_1⟩ dd_X4_refuse ⟨Nat.le_of_ble_eq_true rfl, Nat.le_of_ble_eq_true rfl, rfl, rfl⟩ hl.1 rfl (Nat.le_of_ble_eq_true rfl) dX4_corner_68 ⟨Nat.le_of_ble_eq_true rfl, Nat.le_of_ble_eq_true rfl⟩) hS (fun q h => h.elim (hTA q) (fun z => hA q (Nat.le_trans hS.1 z))) (fun r80 H76 locs77 hq81 hS hz78 hfr79 => ?_)
              obtain ⟨rfl, hP⟩ := hq81
              obtain ⟨I82, hI82, hP⟩ : ∃ I82 : gI, I82 = au I (g + 28) 2 (I (g + 28) 2 + 1) ∧ gP G T55 I82 J56 Q57 O58 H76 := ⟨_, rfl, hP⟩
              refine W.eq (g2 := F0 m 71 ls [.int (-2 : Int32)]) rfl ?_
              refine W.widen (k := 900) (n := 3600) (by omega) (by omega) ?_
              refine g_retci hC hS ?_ dX4_corner_71
              refine Or.inr ⟨b, rfl, Or.inr ⟨rfl, hbq, ?_⟩⟩
              rw [← hcd2]
              exact Or.inr (Or.inl ⟨hin, (by first | exact Or.inl c56 | exact Or.inr (Int32.not_le.mp c62)), rfl, gt_kref hE hg3 hI82 hP⟩)
      · have c16 := gb_f c16
        refine lv_aload_n hx hb dX4_corner_19 rfl (lv_at hl 0 rfl) ?_
        refine lv_iconst (v := (-1)) hx hb dX4_corner_20 (by decide) ?_
        refine g_cc (g_rV (As := [.int (-1 : Int32)]) hC hP (c_X4_refuse l hP (g := g) (q := (-1 : Int32)) (j := 1) (by first | assumption | omega) (by decide) (by omega)) hg.1 rfl ⟨q1_138, q1_135, q1_137, qs_0, q1_1⟩ dd_X4_refuse ⟨Nat.le_of_ble_eq_true rfl, Nat.le_of_ble_eq_true rfl, rfl, rfl⟩ hl.1 rfl (Nat.le_of_ble_eq_true rfl) dX4_corner_21 ⟨Nat.le_of_ble_eq_true rfl, Nat.le_of_ble_eq_true rfl⟩) hS (fun q h => h.elim (hTA q) (fun z => hA q (Nat.le_trans hS.1 z))) (fun r87 H83 locs84 hq88 hS hz85 hfr86 => ?_)
        obtain ⟨rfl, hP⟩ := hq88
        obtain ⟨I89, hI89, hP⟩ : ∃ I89 : gI, I89 = au I (g + 28) 1 (I (g + 28) 1 + 1) ∧ gP G T I89 J Q O H83 := ⟨_, rfl, hP⟩
        refine W.eq (g2 := F0 m 24 ls [.int (-1 : Int32)]) rfl ?_
        refine W.widen (k := 900) (n := 3600) (by omega) (by omega) ?_
        refine g_retci hC hS ?_ dX4_corner_24
        exact Or.inl ⟨Or.inr (Or.inr ⟨rfl, c16⟩), rfl, gt_ref hg hck hI89 hP⟩
