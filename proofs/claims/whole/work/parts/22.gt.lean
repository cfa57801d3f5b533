/-! ===== GameTables in the memory ===== -/
/-- cells of the object that are no corners' -/
def statC (g q : Nat) : Prop := q = g ∨ q = g + 1 ∨ q = g + 6 ∨ (g + 10 ≤ q ∧ q ≤ g + 14) ∨ q = g + 19 ∨ (g + 23 ≤ q ∧ q ≤ g + 28)
def sepS (g : Nat) (Sr Sd : Nat → Prop) : Prop := (∀ q, Sr q → ¬ Sd q) ∧ (∀ q, Sr q → ¬ statC g q) ∧ ∀ q, Sd q → ¬ statC g q
def isGT (T : gTy) (J : gJ) (Q : gR) (O : gO) (g r d m n : Nat) (ck : Bool) (cr cd : CL) (Sr Sd : Nat → Prop) : Prop :=
  T g = (1, 4) ∧ O g 0 = .ref r ∧ O g 1 = .ref d ∧ O g 2 = .ref (g + 27) ∧ O g 3 = .ref (g + 28) ∧ O g 4 = .int (gb ck) ∧ T (g + 28) = (2, 7) ∧ T (g + 27) = (1, 1) ∧ isPl T O r m ∧ isPl T O d n ∧ isMx T O (r + 11) ∧ isMx T O (d + 11) ∧ coG T Q O (r + 1) ∧ coG T Q O (d + 1) ∧ coS T J Q O (r + 1) cr Sr ∧ coS T J Q O (d + 1) cd Sd ∧ ((r = g + 1 ∧ d = g + 14) ∨ (r = g + 14 ∧ d = g + 1)) ∧ sepS g Sr Sd
/-- the corners kept are those of the pays -/
def ckOK (ck : Bool) (cr cd : CL) (m n : Nat) (P0 P1 : Nat → Int32) : Prop := ck = true → cr = sU P1 n (2 ^ n - 1) (2 ^ m - 1) ∧ cd = sU P0 m (2 ^ m - 1) (2 ^ n - 1)
/-- an object at g in the heap H1, with choices, pays, weights, refusals; its cells are old ones of T, or new -/
def gtS (G : gG) (T : gTy) (nn g m n : Nat) (P0 P1 w0 w1 rf : Nat → Int32) (H1 : Heap) : Prop := ∃ (T2 : gTy) (I2 : gI) (J2 : gJ) (Q2 : gR) (O2 : gO) (r d : Nat) (ck : Bool) (cr cd : CL) (Sr Sd : Nat → Prop), gP G T2 I2 J2 Q2 O2 H1 ∧ (∀ q, (T2 q).1 ≠ 0 → (T q).1 ≠ 0 ∨ nn ≤ q) ∧ isGT T2 J2 Q2 O2 g r d m n ck cr cd Sr Sd ∧ ckOK ck cr cd m n P0 P1 ∧ I2 (r + 9) = P0 ∧ I2 (d + 9) = P1 ∧ I2 (r + 10) = w0 ∧ I2 (d + 10) = w1 ∧ I2 (g + 28) = rf
theorem coS_out {T : gTy} {J J' : gJ} {Q Q' : gR} {O O' : gO} {k : Nat} {c : CL} {S : Nat → Prop} (h : coS T J Q O k c S) (ho : ∀ q, S q → J' q = J q ∧ Q' q = Q q ∧ O' q = O q) : coS T J' Q' O' k c S := by
  obtain ⟨fill, sp, ad, ⟨g0, g2, gc, gf, gQ, gm, ga, gi⟩, a2, a3, a4, a5, a6⟩ := h
  have mx : ∀ a, S a → isMx T O a → isMx T O' a := fun a hs ha => isMx_ext ha (fun _ _ => rfl) (ho a hs).2.2
  refine ⟨fill, sp, ad, ⟨by rw [(ho k a4.1).2.2]; exact g0, by rw [(ho k a4.1).2.2]; exact g2, gc, gf, fun j hj => by rw [(ho _ a4.2.1).2.1]; exact gQ j hj, mx sp a5.1 gm, fun j hj => ⟨mx _ (a6 j hj).1 (ga j hj).1, (ga j hj).2⟩, gi⟩, fun j hj => ?_, a3, a4, a5, a6⟩
  have hjf := Nat.lt_of_lt_of_le hj gc
  refine ⟨fun i hi => by rw [(ho _ (a6 j hjf).2).1]; exact (a2 j hj).1 i hi, ?_⟩
  have := (a2 j hj).2
  unfold mxV at *
  rw [(ho _ (a6 j hjf).1).2.2]
  exact this
theorem sep_ne {g q x : Nat} {S : Nat → Prop} (h : ∀ q, S q → ¬ statC g q) (hq : S q) (hx : statC g x) : q ≠ x := fun e => h q hq (e ▸ hx)
theorem gt_st {T : gTy} {J : gJ} {Q : gR} {O : gO} {g r d m n : Nat} {ck : Bool} {cr cd : CL} {Sr Sd : Nat → Prop} (h : isGT T J Q O g r d m n ck cr cd Sr Sd) : statC g g ∧ statC g r ∧ statC g d ∧ statC g (r + 11) ∧ statC g (d + 11) ∧ statC g (r + 12) ∧ statC g (d + 12) ∧ statC g (g + 27) ∧ statC g (r + 1 + 4) ∧ statC g (d + 1 + 4) := by
  obtain ⟨-, -, -, -, -, -, -, -, -, -, -, -, -, -, -, -, e, -⟩ := h
  unfold statC
  omega
/-- another truth value of cornersKnown -/
theorem isGT_ck {T : gTy} {J : gJ} {Q : gR} {O O' : gO} {g r d m n : Nat} {ck b : Bool} {cr cd : CL} {Sr Sd : Nat → Prop} (h : isGT T J Q O g r d m n ck cr cd Sr Sd) (hO : O' = au O g 4 (.int (gb b))) : isGT T J Q O' g r d m n b cr cd Sr Sd := by
  have st := gt_st h
  obtain ⟨a1, a2, a3, a4, a5, a6, a7, a8, a9, a10, a11, a12, a13, a14, a15, a16, a17, a18⟩ := h
  have o1 : ∀ q, q ≠ g → O' q = O q := fun q hq => by rw [hO, au_ne _ _ _ hq]
  have o2 : ∀ f, f ≠ 4 → O' g f = O g f := fun f hf => by rw [hO, au_row, gu_ne _ _ hf]
  exact ⟨a1, by rw [o2 0 (by decide)]; exact a2, by rw [o2 1 (by decide)]; exact a3, by rw [o2 2 (by decide)]; exact a4, by rw [o2 3 (by decide)]; exact a5, by rw [hO, au_row, gu_eq], a7, a8, isPl_au a9 hO (by omega), isPl_au a10 hO (by omega), isMx_au a11 hO (Or.inl (by omega)), isMx_au a12 hO (Or.inl (by omega)), coG_au a13 hO (by omega), coG_au a14 hO (by omega), coS_out a15 (fun q hq => ⟨rfl, rfl, o1 q (sep_ne a18.2.1 hq st.1)⟩), coS_out a16 (fun q hq => ⟨rfl, rfl, o1 q (sep_ne a18.2.2 hq st.1)⟩), a17, a18⟩
theorem isPl_ch {T : gTy} {O O' : gO} {b ch c2 : Nat} (h : isPl T O b ch) (hO : O' = au O b 0 (.int (nI c2))) (h1 : 1 ≤ c2) (h2 : c2 ≤ 4) : isPl T O' b c2 := by
  obtain ⟨a1, a2, a3, a4, a5, a6, a7, a8, a9⟩ := h
  exact ⟨a1, by rw [hO, au_row, gu_eq], by rw [hO, au_row, gu_ne _ _ (by decide)]; exact a3, by rw [hO, au_row, gu_ne _ _ (by decide)]; exact a4, by rw [hO, au_row, gu_ne _ _ (by decide)]; exact a5, by rw [hO, au_row, gu_ne _ _ (by decide)]; exact a6, a7, a8, h1, h2⟩
/-- other numbers of choices -/
theorem isGT_m {T : gTy} {J : gJ} {Q : gR} {O O' : gO} {g r d m n m2 : Nat} {ck : Bool} {cr cd : CL} {Sr Sd : Nat → Prop} (h : isGT T J Q O g r d m n ck cr cd Sr Sd) (hO : O' = au O r 0 (.int (nI m2))) (h1 : 1 ≤ m2) (h2 : m2 ≤ 4) : isGT T J Q O' g r d m2 n ck cr cd Sr Sd := by
  have st := gt_st h
  obtain ⟨a1, a2, a3, a4, a5, a6, a7, a8, a9, a10, a11, a12, a13, a14, a15, a16, a17, a18⟩ := h
  have o1 : ∀ q, q ≠ r → O' q = O q := fun q hq => by rw [hO, au_ne _ _ _ hq]
  have og := o1 g (by omega)
  exact ⟨a1, by rw [og]; exact a2, by rw [og]; exact a3, by rw [og]; exact a4, by rw [og]; exact a5, by rw [og]; exact a6, a7, a8, isPl_ch a9 hO h1 h2, isPl_au a10 hO (by omega), isMx_au a11 hO (Or.inl (by omega)), isMx_au a12 hO (Or.inl (by omega)), coG_au a13 hO (by omega), coG_au a14 hO (by omega), coS_out a15 (fun q hq => ⟨rfl, rfl, o1 q (sep_ne a18.2.1 hq st.2.1)⟩), coS_out a16 (fun q hq => ⟨rfl, rfl, o1 q (sep_ne a18.2.2 hq st.2.1)⟩), a17, a18⟩
theorem isGT_n {T : gTy} {J : gJ} {Q : gR} {O O' : gO} {g r d m n n2 : Nat} {ck : Bool} {cr cd : CL} {Sr Sd : Nat → Prop} (h : isGT T J Q O g r d m n ck cr cd Sr Sd) (hO : O' = au O d 0 (.int (nI n2))) (h1 : 1 ≤ n2) (h2 : n2 ≤ 4) : isGT T J Q O' g r d m n2 ck cr cd Sr Sd := by
  have st := gt_st h
  obtain ⟨a1, a2, a3, a4, a5, a6, a7, a8, a9, a10, a11, a12, a13, a14, a15, a16, a17, a18⟩ := h
  have o1 : ∀ q, q ≠ d → O' q = O q := fun q hq => by rw [hO, au_ne _ _ _ hq]
  have og := o1 g (by omega)
  exact ⟨a1, by rw [og]; exact a2, by rw [og]; exact a3, by rw [og]; exact a4, by rw [og]; exact a5, by rw [og]; exact a6, a7, a8, isPl_au a9 hO (by omega), isPl_ch a10 hO h1 h2, isMx_au a11 hO (Or.inl (by omega)), isMx_au a12 hO (Or.inl (by omega)), coG_au a13 hO (by omega), coG_au a14 hO (by omega), coS_out a15 (fun q hq => ⟨rfl, rfl, o1 q (sep_ne a18.2.1 hq st.2.2.1)⟩), coS_out a16 (fun q hq => ⟨rfl, rfl, o1 q (sep_ne a18.2.2 hq st.2.2.1)⟩), a17, a18⟩
theorem ckOK_f {cr cd : CL} {m n : Nat} {P0 P1 : Nat → Int32} : ckOK false cr cd m n P0 P1 := fun h => by cases h
theorem isW_c {q : Int32} (h : isW q = true) : q = nI 0 ∨ q = nI 1 := by
  simp only [isW, Bool.or_eq_true, decide_eq_true_eq] at h
  exact h
theorem rf_neg {j : Nat} (h : 1 ≤ j ∧ j ≤ 6) : ¬ 0 ≤ -(nI j) ∧ ¬ -(nI j) < -6 := by
  have q : ∀ j, j < 7 → 1 ≤ j → ¬ 0 ≤ -(nI j) ∧ ¬ -(nI j) < -6 := by decide
  exact q j (by omega) h.1
set_option maxHeartbeats 4000000 in
set_option maxRecDepth 100000 in
theorem c_X4_refuse (l : Launch) {G : gG} {T : gTy} {I : gI} {J : gJ} {Q : gR} {O : gO} {H : Heap} (hP : gP G T I J Q O H) {g r d mr md : Nat} {ck : Bool} {cr cd : CL} {Sr Sd : Nat → Prop} {q : Int32} {j : Nat} (hg : isGT T J Q O g r d mr md ck cr cd Sr Sd) (hq : q = -(nI j)) (hj : 1 ≤ j ∧ j ≤ 6) : Met l yX4_refuse (gw yX4_refuse cX4_refuse 2 (some (.int))) ({ frames := 0, cells := 0, slots := 0, locals := 0 } : Room) (gPc G H [.ref g, .int q]) (gQc (gF T H) (fun r H1 => r = some (.int q) ∧ gP G T (au I (g + 28) j (I (g + 28) j + 1)) J Q O H1)) 0 0 (gF T H) := by
  refine g_met [(0, .ref g), (1, .int q)] (by decide) rfl (by exact Nat.le_of_ble_eq_true rfl) ?_
  intro p e s m below meth c hC hs ls hl
  have hx := hC.1.1
  have hb := hC.1.2.1
  have hS : va_S (gF T H) s.heap H [] := hs ▸ va_S.rf
  have hTA : ∀ q, (T q).1 ≠ 0 → gF T H q := fun q h => Or.inl h
  have hA : ∀ q, s.heap.size ≤ q → gF T H q := fun q h => Or.inr (hs ▸ h)
  generalize hAe : gF T H = A at hS hTA hA ⊢
  have hg_lo8 := hg.2.2.2.2.2.2.2.2.1.2.2.2.2.2.2.2.2.1
  have hg_hi8 := hg.2.2.2.2.2.2.2.2.1.2.2.2.2.2.2.2.2.2
  have hg_lo9 := hg.2.2.2.2.2.2.2.2.2.1.2.2.2.2.2.2.2.2.1
  have hg_hi9 := hg.2.2.2.2.2.2.2.2.2.1.2.2.2.2.2.2.2.2.2
  have hg_ad := hg.2.2.2.2.2.2.2.2.2.2.2.2.2.2.2.2.1
  have hrn := rf_neg hj
  refine lv_iload_n hx hb dX4_refuse_0 rfl (lv_at hl 1 rfl) ?_
  refine lv_if_ge (tgt := 21) hx hb dX4_refuse_1 (by decide) (fun c1 => ?_) (fun c1 => ?_)
  · exact absurd (hq ▸ c1) hrn.1
  · refine lv_iload_n hx hb dX4_refuse_4 rfl (lv_at hl 1 rfl) ?_
    refine lv_bipush (v := (-6)) hx hb dX4_refuse_5 (by decide) ?_
    refine lv_icmp_lt (tgt := 21) hx hb dX4_refuse_7 (by decide) (fun c7 => ?_) (fun c7 => ?_)
    · exact absurd (hq ▸ c7) hrn.2
    · refine lv_aload_n hx hb dX4_refuse_10 rfl (lv_at hl 0 rfl) ?_
      refine g_get hC hP hg.1 rfl inX4 3 (by decide) q1_118 hg.2.2.2.2.1 dX4_refuse_11 ?_
      refine lv_iload_n hx hb dX4_refuse_14 rfl (lv_at hl 1 rfl) ?_
      refine lv_ineg hx hb dX4_refuse_15 ?_
      refine g_topi (y := nI j) (by rw [hq]; exact Int32.neg_neg) ?_
      refine lv_dup2_11 hx hb dX4_refuse_16 rfl rfl ?_
      refine g_iald hC hP hg.2.2.2.2.2.2.1 (vp_in_nI (by omega) (by decide)) dX4_refuse_17 ?_
      refine g_topi (y := I (g + 28) j) (congrArg (I (g + 28)) (nI_clamp (by omega))) ?_
      refine lv_iconst (v := nI 1) hx hb dX4_refuse_18 (by decide) ?_
      refine lv_iadd hx hb dX4_refuse_19 ?_
      refine g_topi (y := I (g + 28) j + 1) rfl ?_
      refine g_iast hC hP hS hTA hg.2.2.2.2.2.2.1 (vp_in_nI (by omega) (by decide)) dX4_refuse_20 (fun H1 locs2 hP hS hz4 => ?_)
      rw [show (nI j).toNatClampNeg = j from nI_clamp (by omega)] at hP
      obtain ⟨I3, hI3, hP⟩ : ∃ X : gI, X = au I (g + 28) j (I (g + 28) j + 1) ∧ gP G T X J Q O H1 := ⟨_, rfl, hP⟩
      refine lv_iload_n hx hb dX4_refuse_21 rfl (lv_at hl 1 rfl) ?_
      refine g_retci hC hS ?_ dX4_refuse_22
      refine ⟨rfl, ?_⟩
      simpa only [*] using hP
set_option maxHeartbeats 4000000 in
set_option maxRecDepth 100000 in
theorem c_X4_refuseAmongPays (l : Launch) {G : gG} {T : gTy} {I : gI} {J : gJ} {Q : gR} {O : gO} {H : Heap} (hP : gP G T I J Q O H) {g r d mr md : Nat} {ck : Bool} {cr cd : CL} {Sr Sd : Nat → Prop} {q : Int32} {j : Nat} (hg : isGT T J Q O g r d mr md ck cr cd Sr Sd) (hq : q = -(nI j)) (hj : 1 ≤ j ∧ j ≤ 6) : Met l yX4_refuseAmongPays (gw yX4_refuseAmongPays cX4_refuseAmongPays 2 (some (.int))) ({ frames := 1, cells := 0, slots := 0, locals := 21 } : Room) (gPc G H [.ref g, .int q]) (gQc (gF T H) (fun r H1 => r = some (.int (1000000000 - q)) ∧ gP G T (au I (g + 28) j (I (g + 28) j + 1)) J Q O H1)) 0 0 (gF T H) := by
  refine g_met [(0, .ref g), (1, .int q)] (by decide) rfl (by exact Nat.le_of_ble_eq_true rfl) ?_
  intro p e s m below meth c hC hs ls hl
  have hx := hC.1.1
  have hb := hC.1.2.1
  have hS : va_S (gF T H) s.heap H [] := hs ▸ va_S.rf
  have hTA : ∀ q, (T q).1 ≠ 0 → gF T H q := fun q h => Or.inl h
  have hA : ∀ q, s.heap.size ≤ q → gF T H q := fun q h => Or.inr (hs ▸ h)
  generalize hAe : gF T H = A at hS hTA hA ⊢
  have hg_lo8 := hg.2.2.2.2.2.2.2.2.1.2.2.2.2.2.2.2.2.1
  have hg_hi8 := hg.2.2.2.2.2.2.2.2.1.2.2.2.2.2.2.2.2.2
  have hg_lo9 := hg.2.2.2.2.2.2.2.2.2.1.2.2.2.2.2.2.2.2.1
  have hg_hi9 := hg.2.2.2.2.2.2.2.2.2.1.2.2.2.2.2.2.2.2.2
  have hg_ad := hg.2.2.2.2.2.2.2.2.2.2.2.2.2.2.2.2.1
  refine lv_ldc (v := (1000000000 : Int32)) hx hb hC.1.2.2.2.1 (hC.1.2.2.2.2 _ q1_162) dX4_refuseAmongPays_0 ?_
  refine lv_aload_n hx hb dX4_refuseAmongPays_2 rfl (lv_at hl 0 rfl) ?_
  refine lv_iload_n hx hb dX4_refuseAmongPays_3 rfl (lv_at hl 1 rfl) ?_
  refine g_cc (g_rV (As := [.int q]) hC hP (c_X4_refuse l hP (g := g) (q := q) (j := j) (by first | assumption | omega) (by first | assumption | omega) (by first | assumption | omega)) hg.1 rfl ⟨q1_138, q1_135, q1_137, qs_0, q1_1⟩ dd_X4_refuse ⟨Nat.le_of_ble_eq_true rfl, Nat.le_of_ble_eq_true rfl, rfl, rfl⟩ hl.1 rfl (Nat.le_of_ble_eq_true rfl) dX4_refuseAmongPays_4 ⟨Nat.le_of_ble_eq_true rfl, Nat.le_of_ble_eq_true rfl⟩) hS (fun q h => h.elim (hTA q) (fun z => hA q (Nat.le_trans hS.1 z))) (fun r5 H1 locs2 hq6 hS hz3 hfr4 => ?_)
  obtain ⟨rfl, hP⟩ := hq6
  obtain ⟨I7, hI7, hP⟩ : ∃ I7 : gI, I7 = au I (g + 28) j (I (g + 28) j + 1) ∧ gP G T I7 J Q O H1 := ⟨_, rfl, hP⟩
  refine W.eq (g2 := F0 m 7 ls [.int q, .int (1000000000 : Int32)]) rfl ?_
  refine lv_isub hx hb dX4_refuseAmongPays_7 ?_
  refine g_retci hC hS ?_ dX4_refuseAmongPays_8
  refine ⟨rfl, ?_⟩
  simpa only [*] using hP
set_option maxHeartbeats 4000000 in
set_option maxRecDepth 100000 in
theorem c_X4_refuseAmongLongs (l : Launch) {G : gG} {T : gTy} {I : gI} {J : gJ} {Q : gR} {O : gO} {H : Heap} (hP : gP G T I J Q O H) {g r d mr md : Nat} {ck : Bool} {cr cd : CL} {Sr Sd : Nat → Prop} {q : Int32} {j : Nat} (hg : isGT T J Q O g r d mr md ck cr cd Sr Sd) (hq : q = -(nI j)) (hj : 1 ≤ j ∧ j ≤ 6) : Met l yX4_refuseAmongLongs (gw yX4_refuseAmongLongs cX4_refuseAmongLongs 2 (some (.long))) ({ frames := 1, cells := 0, slots := 0, locals := 21 } : Room) (gPc G H [.ref g, .int q]) (gQc (gF T H) (fun r H1 => r = some (.long (4000000000000000000 - q.toInt64)) ∧ gP G T (au I (g + 28) j (I (g + 28) j + 1)) J Q O H1)) 0 0 (gF T H) := by
  refine g_met [(0, .ref g), (1, .int q)] (by decide) rfl (by exact Nat.le_of_ble_eq_true rfl) ?_
  intro p e s m below meth c hC hs ls hl
  have hx := hC.1.1
  have hb := hC.1.2.1
  have hS : va_S (gF T H) s.heap H [] := hs ▸ va_S.rf
  have hTA : ∀ q, (T q).1 ≠ 0 → gF T H q := fun q h => Or.inl h
  have hA : ∀ q, s.heap.size ≤ q → gF T H q := fun q h => Or.inr (hs ▸ h)
  generalize hAe : gF T H = A at hS hTA hA ⊢
  have hg_lo8 := hg.2.2.2.2.2.2.2.2.1.2.2.2.2.2.2.2.2.1
  have hg_hi8 := hg.2.2.2.2.2.2.2.2.1.2.2.2.2.2.2.2.2.2
  have hg_lo9 := hg.2.2.2.2.2.2.2.2.2.1.2.2.2.2.2.2.2.2.1
  have hg_hi9 := hg.2.2.2.2.2.2.2.2.2.1.2.2.2.2.2.2.2.2.2
  have hg_ad := hg.2.2.2.2.2.2.2.2.2.2.2.2.2.2.2.2.1
  refine lv_ldc2 (v := (4000000000000000000 : Int64)) hx hb hC.1.2.2.2.1 (hC.1.2.2.2.2 _ q1_195) dX4_refuseAmongLongs_0 ?_
  refine lv_aload_n hx hb dX4_refuseAmongLongs_3 rfl (lv_at hl 0 rfl) ?_
  refine lv_iload_n hx hb dX4_refuseAmongLongs_4 rfl (lv_at hl 1 rfl) ?_
  refine g_cc (g_rV (As := [.int q]) hC hP (c_X4_refuse l hP (g := g) (q := q) (j := j) (by first | assumption | omega) (by first | assumption | omega) (by first | assumption | omega)) hg.1 rfl ⟨q1_138, q1_135, q1_137, qs_0, q1_1⟩ dd_X4_refuse ⟨Nat.le_of_ble_eq_true rfl, Nat.le_of_ble_eq_true rfl, rfl, rfl⟩ hl.1 rfl (Nat.le_of_ble_eq_true rfl) dX4_refuseAmongLongs_5 ⟨Nat.le_of_ble_eq_true rfl, Nat.le_of_ble_eq_true rfl⟩) hS (fun q h => h.elim (hTA q) (fun z => hA q (Nat.le_trans hS.1 z))) (fun r5 H1 locs2 hq6 hS hz3 hfr4 => ?_)
  obtain ⟨rfl, hP⟩ := hq6
  obtain ⟨I7, hI7, hP⟩ : ∃ I7 : gI, I7 = au I (g + 28) j (I (g + 28) j + 1) ∧ gP G T I7 J Q O H1 := ⟨_, rfl, hP⟩
  refine W.eq (g2 := F0 m 8 ls [.int q, .long (4000000000000000000 : Int64)]) rfl ?_
  refine lv_i2l hx hb dX4_refuseAmongLongs_8 rfl ?_
  refine lv_lsub hx hb dX4_refuseAmongLongs_9 ?_
  refine g_retcl hC hS ?_ dX4_refuseAmongLongs_10
  refine ⟨rfl, ?_⟩
  simpa only [*] using hP
set_option maxHeartbeats 4000000 in
set_option maxRecDepth 100000 in
theorem c_X4_isPlace (l : Launch) {G : gG} {T : gTy} {I : gI} {J : gJ} {Q : gR} {O : gO} {H : Heap} (hP : gP G T I J Q O H) {g r d mr md : Nat} {ck : Bool} {cr cd : CL} {Sr Sd : Nat → Prop} {q i k : Int32} (hg : isGT T J Q O g r d mr md ck cr cd Sr Sd) : Met l yX4_isPlace (gw yX4_isPlace cX4_isPlace 4 (some (.boolean))) ({ frames := 1, cells := 0, slots := 0, locals := 21 } : Room) (gPc G H [.ref g, .int q, .int i, .int k]) (gQp (some (.int (gb (isW q && (inR i mr && inR k md)))))) 0 0 (fun _ => False) := by
  refine g_met [(0, .ref g), (1, .int q), (2, .int i), (3, .int k)] (by decide) rfl (by exact Nat.le_of_ble_eq_true rfl) ?_
  intro p e s m below meth c hC hs ls hl
  have hx := hC.1.1
  have hb := hC.1.2.1
  have hg_lo8 := hg.2.2.2.2.2.2.2.2.1.2.2.2.2.2.2.2.2.1
  have hg_hi8 := hg.2.2.2.2.2.2.2.2.1.2.2.2.2.2.2.2.2.2
  have hg_lo9 := hg.2.2.2.2.2.2.2.2.2.1.2.2.2.2.2.2.2.2.1
  have hg_hi9 := hg.2.2.2.2.2.2.2.2.2.1.2.2.2.2.2.2.2.2.2
  have hg_ad := hg.2.2.2.2.2.2.2.2.2.2.2.2.2.2.2.2.1
  refine lv_iload_n hx hb dX4_isPlace_0 rfl (lv_at hl 1 rfl) ?_
  refine g_cp (g_rS (As := [.int q]) hC (c_X4_isWho l (q := q)) ⟨q1_153, q1_151, q1_152, q1_1⟩ dd_X4_isWho ⟨Nat.le_of_ble_eq_true rfl, Nat.le_of_ble_eq_true rfl, rfl, rfl⟩ hl.1 rfl (Nat.le_of_ble_eq_true rfl) dX4_isPlace_1 ⟨Nat.le_of_ble_eq_true rfl, Nat.le_of_ble_eq_true rfl⟩) ?_
  refine W.eq (g2 := F0 m 4 ls [.int (gb (isW q))]) rfl ?_
  refine lv_if_eq (tgt := 33) hx hb dX4_isPlace_4 (by decide) (fun c4 => ?_) (fun c4 => ?_)
  · have c4 := gb_f c4
    refine lv_iconst (v := nI 0) hx hb dX4_isPlace_33 (by decide) ?_
    refine g_retz hC hs ?_ dX4_isPlace_34
    simp [*, gb, nI]
  · have c4 := gb_t c4
    refine lv_aload_n hx hb dX4_isPlace_7 rfl (lv_at hl 0 rfl) ?_
    refine g_get hC hP hg.1 rfl inX4 0 (by decide) q1_115 hg.2.1 dX4_isPlace_8 ?_
    refine lv_iload_n hx hb dX4_isPlace_11 rfl (lv_at hl 2 rfl) ?_
    refine g_cp (g_rV (As := [.int i]) hC hP (c_X3_hasChoice l hP (b := r) (ch := mr) (q := i) hg.2.2.2.2.2.2.2.2.1) hg.2.2.2.2.2.2.2.2.1.1 rfl ⟨q1_157, q1_154, q1_155, q1_156, q1_2⟩ dd_X3_hasChoice ⟨Nat.le_of_ble_eq_true rfl, Nat.le_of_ble_eq_true rfl, rfl, rfl⟩ hl.1 rfl (Nat.le_of_ble_eq_true rfl) dX4_isPlace_12 ⟨Nat.le_of_ble_eq_true rfl, Nat.le_of_ble_eq_true rfl⟩) ?_
    refine W.eq (g2 := F0 m 15 ls [.int (gb (inR i mr))]) rfl ?_
    refine lv_if_eq (tgt := 33) hx hb dX4_isPlace_15 (by decide) (fun c15 => ?_) (fun c15 => ?_)
    · have c15 := gb_f c15
      refine lv_iconst (v := nI 0) hx hb dX4_isPlace_33 (by decide) ?_
      refine g_retz hC hs ?_ dX4_isPlace_34
      simp [*, gb, nI]
    · have c15 := gb_t c15
      refine lv_aload_n hx hb dX4_isPlace_18 rfl (lv_at hl 0 rfl) ?_
      refine g_get hC hP hg.1 rfl inX4 1 (by decide) q1_116 hg.2.2.1 dX4_isPlace_19 ?_
      refine lv_iload_n hx hb dX4_isPlace_22 rfl (lv_at hl 3 rfl) ?_
      refine g_cp (g_rV (As := [.int k]) hC hP (c_X3_hasChoice l hP (b := d) (ch := md) (q := k) hg.2.2.2.2.2.2.2.2.2.1) hg.2.2.2.2.2.2.2.2.2.1.1 rfl ⟨q1_157, q1_154, q1_155, q1_156, q1_2⟩ dd_X3_hasChoice ⟨Nat.le_of_ble_eq_true rfl, Nat.le_of_ble_eq_true rfl, rfl, rfl⟩ hl.1 rfl (Nat.le_of_ble_eq_true rfl) dX4_isPlace_23 ⟨Nat.le_of_ble_eq_true rfl, Nat.le_of_ble_eq_true rfl⟩) ?_
      refine W.eq (g2 := F0 m 26 ls [.int (gb (inR k md))]) rfl ?_
      refine lv_if_eq (tgt := 33) hx hb dX4_isPlace_26 (by decide) (fun c26 => ?_) (fun c26 => ?_)
      · have c26 := gb_f c26
        refine lv_iconst (v := nI 0) hx hb dX4_isPlace_33 (by decide) ?_
        refine g_retz hC hs ?_ dX4_isPlace_34
        simp [*, gb, nI]
      · have c26 := gb_t c26
        refine lv_iconst (v := nI 1) hx hb dX4_isPlace_29 (by decide) ?_
        refine lv_goto (tgt := 34) hx hb dX4_isPlace_30 (by decide) ?_
        refine g_retz hC hs ?_ dX4_isPlace_34
        simp [*, gb, nI]
set_option maxHeartbeats 4000000 in
set_option maxRecDepth 100000 in
theorem c_X4_player (l : Launch) {G : gG} {T : gTy} {I : gI} {J : gJ} {Q : gR} {O : gO} {H : Heap} (hP : gP G T I J Q O H) {g r d mr md : Nat} {ck : Bool} {cr cd : CL} {Sr Sd : Nat → Prop} {w : Nat} (hg : isGT T J Q O g r d mr md ck cr cd Sr Sd) (hw : w < 2) : Met l yX4_player (gw yX4_player cX4_player 2 (some (.object "GameTables$Player"))) ({ frames := 0, cells := 0, slots := 0, locals := 0 } : Room) (gPc G H [.ref g, .int (nI w)]) (gQp (some (.ref (if w = 0 then r else d)))) 0 0 (fun _ => False) := by
  refine g_met [(0, .ref g), (1, .int (nI w))] (by decide) rfl (by exact Nat.le_of_ble_eq_true rfl) ?_
  intro p e s m below meth c hC hs ls hl
  have hx := hC.1.1
  have hb := hC.1.2.1
  have hg_lo8 := hg.2.2.2.2.2.2.2.2.1.2.2.2.2.2.2.2.2.1
  have hg_hi8 := hg.2.2.2.2.2.2.2.2.1.2.2.2.2.2.2.2.2.2
  have hg_lo9 := hg.2.2.2.2.2.2.2.2.2.1.2.2.2.2.2.2.2.2.1
  have hg_hi9 := hg.2.2.2.2.2.2.2.2.2.1.2.2.2.2.2.2.2.2.2
  have hg_ad := hg.2.2.2.2.2.2.2.2.2.2.2.2.2.2.2.2.1
  refine lv_iload_n hx hb dX4_player_0 rfl (lv_at hl 1 rfl) ?_
  refine lv_if_ne (tgt := 11) hx hb dX4_player_1 (by decide) (fun c1 => ?_) (fun c1 => ?_)
  · have c1 := mt (fun q => ((nI_eq (b := 0) (by omega) (by decide)).mpr q).trans nI_0) c1
    refine lv_aload_n hx hb dX4_player_11 rfl (lv_at hl 0 rfl) ?_
    refine g_get hC hP hg.1 rfl inX4 1 (by decide) q1_116 hg.2.2.1 dX4_player_12 ?_
    refine g_reta hC hs ?_ (Or.inr ⟨_, rfl⟩) dX4_player_15
    first | rw [if_pos c1] | rw [if_neg c1]
  · have c1 := (nI_eq (by omega) (by decide)).mp (c1.trans nI_0.symm)
    refine lv_aload_n hx hb dX4_player_4 rfl (lv_at hl 0 rfl) ?_
    refine g_get hC hP hg.1 rfl inX4 0 (by decide) q1_115 hg.2.1 dX4_player_5 ?_
    refine lv_goto (tgt := 15) hx hb dX4_player_8 (by decide) ?_
    refine g_reta hC hs ?_ (Or.inr ⟨_, rfl⟩) dX4_player_15
    first | rw [if_pos c1] | rw [if_neg c1]
