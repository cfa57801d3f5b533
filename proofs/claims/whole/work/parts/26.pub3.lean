/-! ===== turn, dropping, corners ===== -/
theorem isGT_turn {T : gTy} {J : gJ} {Q : gR} {O O1 O2 : gO} {g r d m n : Nat} {ck : Bool} {cr cd : CL} {Sr Sd : Nat → Prop} (h : isGT T J Q O g r d m n ck cr cd Sr Sd) (h1 : O1 = au O g 0 (.ref d)) (h2 : O2 = au O1 g 1 (.ref r)) : isGT T J Q O2 g d r n m ck cd cr Sd Sr := by
  have st := gt_st h
  obtain ⟨a1, a2, a3, a4, a5, a6, a7, a8, a9, a10, a11, a12, a13, a14, a15, a16, a17, a18⟩ := h
  have o1 : ∀ q, q ≠ g → O2 q = O q := fun q hq => by rw [h2, au_ne _ _ _ hq, h1, au_ne _ _ _ hq]
  have o2 : ∀ f, f ≠ 0 → f ≠ 1 → O2 g f = O g f := fun f h0 h9 => by rw [h2, au_row, gu_ne _ _ h9, h1, au_row, gu_ne _ _ h0]
  refine ⟨a1, by rw [h2, au_row, gu_ne _ _ (by decide), h1, au_row, gu_eq], by rw [h2, au_row, gu_eq], by rw [o2 2 (by decide) (by decide)]; exact a4, by rw [o2 3 (by decide) (by decide)]; exact a5, by rw [o2 4 (by decide) (by decide)]; exact a6, a7, a8, isPl_ext a10 (fun _ _ => rfl) (o1 d (by omega)), isPl_ext a9 (fun _ _ => rfl) (o1 r (by omega)), isMx_ext a12 (fun _ _ => rfl) (o1 _ (by omega)), isMx_ext a11 (fun _ _ => rfl) (o1 _ (by omega)), coG_ext a14 (fun _ _ => rfl) (by rw [o1 (d + 1) (by omega)]) (by rw [o1 (d + 1) (by omega)]) rfl, coG_ext a13 (fun _ _ => rfl) (by rw [o1 (r + 1) (by omega)]) (by rw [o1 (r + 1) (by omega)]) rfl, coS_out a16 (fun q hq => ⟨rfl, rfl, o1 q (sep_ne a18.2.2 hq st.1)⟩), coS_out a15 (fun q hq => ⟨rfl, rfl, o1 q (sep_ne a18.2.1 hq st.1)⟩), by omega, ⟨fun q hd hr => a18.1 q hr hd, a18.2.2, a18.2.1⟩⟩
/-- writes on cells that are no corners', players' or the object's own -/
theorem isGT_o {T : gTy} {J : gJ} {Q : gR} {O O2 : gO} {g r d m n x : Nat} {ck : Bool} {cr cd : CL} {Sr Sd : Nat → Prop} (h : isGT T J Q O g r d m n ck cr cd Sr Sd) (hx : x = g + 27) (ho : ∀ q, q ≠ x → O2 q = O q) : isGT T J Q O2 g r d m n ck cr cd Sr Sd := by
  have st := gt_st h
  obtain ⟨a1, a2, a3, a4, a5, a6, a7, a8, a9, a10, a11, a12, a13, a14, a15, a16, a17, a18⟩ := h
  have og := ho g (by omega)
  exact ⟨a1, by rw [og]; exact a2, by rw [og]; exact a3, by rw [og]; exact a4, by rw [og]; exact a5, by rw [og]; exact a6, a7, a8, isPl_ext a9 (fun _ _ => rfl) (ho r (by omega)), isPl_ext a10 (fun _ _ => rfl) (ho d (by omega)), isMx_ext a11 (fun _ _ => rfl) (ho _ (by omega)), isMx_ext a12 (fun _ _ => rfl) (ho _ (by omega)), coG_ext a13 (fun _ _ => rfl) (by rw [ho (r + 1) (by omega)]) (by rw [ho (r + 1) (by omega)]) rfl, coG_ext a14 (fun _ _ => rfl) (by rw [ho (d + 1) (by omega)]) (by rw [ho (d + 1) (by omega)]) rfl, coS_out a15 (fun q hq => ⟨rfl, rfl, ho q (hx ▸ sep_ne a18.2.1 hq st.2.2.2.2.2.2.2.1)⟩), coS_out a16 (fun q hq => ⟨rfl, rfl, ho q (hx ▸ sep_ne a18.2.2 hq st.2.2.2.2.2.2.2.1)⟩), a17, a18⟩
theorem drO_out {O : gO} {D A B k q : Nat} (h : q ≠ D) : drO O D A B k q = O q := by
  unfold drO
  rw [au_ne _ _ _ h, au_ne _ _ _ h, au_ne _ _ _ h]
/-- a list of corners over a memory that has grown elsewhere -/
theorem coS_keep {T T2 : gTy} {J J2 : gJ} {Q Q2 : gR} {O O2 : gO} {k : Nat} {c : CL} {S : Nat → Prop} (h : coS T J Q O k c S) (hT : ∀ q, (T q).1 ≠ 0 → T2 q = T q) (ho : ∀ q, S q → J2 q = J q ∧ Q2 q = Q q ∧ O2 q = O q) : coS T2 J2 Q2 O2 k c S := by
  obtain ⟨fill, sp, ad, ⟨g0, g2, gc, gf, gQ, gm, ga, gi⟩, a2, a3, a4, a5, a6⟩ := h
  have mx : ∀ a, S a → isMx T O a → isMx T2 O2 a := fun a hs ha => isMx_ext ha hT (ho a hs).2.2
  refine ⟨fill, sp, ad, ⟨by rw [(ho k a4.1).2.2]; exact g0, by rw [(ho k a4.1).2.2]; exact g2, gc, gf, fun j hj => by rw [(ho _ a4.2.1).2.1]; exact gQ j hj, mx sp a5.1 gm, fun j hj => ⟨mx _ (a6 j hj).1 (ga j hj).1, (ga j hj).2⟩, gi⟩, fun j hj => ?_, fun q hq => by rw [hT q (a3 q hq)]; exact a3 q hq, a4, a5, a6⟩
  have hjf := Nat.lt_of_lt_of_le hj gc
  refine ⟨fun i hi => by rw [(ho _ (a6 j hjf).2).1]; exact (a2 j hj).1 i hi, ?_⟩
  have := (a2 j hj).2
  unfold mxV at *
  rw [(ho _ (a6 j hjf).1).2.2]
  exact this
/-- ROW's corners searched -/
theorem isGT_row {T T2 : gTy} {J J2 : gJ} {Q Q2 : gR} {O O2 : gO} {nn g r d m n : Nat} {ck : Bool} {cr cd c2 : CL} {Sr Sd : Nat → Prop} (h : isGT T J Q O g r d m n ck cr cd Sr Sd) (hlt : ∀ q, (T q).1 ≠ 0 → q < nn) (hE : tExt T T2 nn) (hF : ∀ q, (T q).1 ≠ 0 → ¬ Sr q → J2 q = J q ∧ Q2 q = Q q ∧ O2 q = O q) (hco : coG T2 Q2 O2 (r + 1)) (hcs : coS T2 J2 Q2 O2 (r + 1) c2 (sGrow Sr T2 nn)) : isGT T2 J2 Q2 O2 g r d m n ck c2 cd (sGrow Sr T2 nn) Sd := by
  have st := gt_st h
  obtain ⟨a1, a2, a3, a4, a5, a6, a7, a8, a9, a10, a11, a12, a13, a14, a15, a16, a17, a18⟩ := h
  have hSd : ∀ q, Sd q → (T q).1 ≠ 0 := by obtain ⟨_, _, _, _, _, h, _⟩ := a16; exact h
  have fo : ∀ q, (T q).1 ≠ 0 → statC g q → O2 q = O q := fun q hq hs => (hF q hq (fun z => a18.2.1 q z hs)).2.2
  have og := fo g (by rw [a1]; simp) st.1
  have nd : ∀ q, Sd q → ¬ Sr q := fun q hd hr => a18.1 q hr hd
  have d1 : Sd (d + 1) := by obtain ⟨_, _, _, _, _, _, h, _⟩ := a16; exact h.1
  have gT : ∀ q, statC g q → (T q).1 ≠ 0 → ¬ (nn ≤ q) := fun q _ hq => by have := hlt q hq; omega
  have dq : Q2 (d + 1 + 4) = Q (d + 1 + 4) := (hF _ (by rw [a14.2.2.2.2.1]; simp) (fun z => a18.2.1 _ z st.2.2.2.2.2.2.2.2.2)).2.1
  refine ⟨by rw [hE.1 g (by rw [a1]; simp)]; exact a1, by rw [og]; exact a2, by rw [og]; exact a3, by rw [og]; exact a4, by rw [og]; exact a5, by rw [og]; exact a6, by rw [hE.1 _ (by rw [a7]; simp)]; exact a7, by rw [hE.1 _ (by rw [a8]; simp)]; exact a8, isPl_ext a9 hE.1 (fo r (by rw [a9.1]; simp) st.2.1), isPl_ext a10 hE.1 (fo d (by rw [a10.1]; simp) st.2.2.1), isMx_ext a11 hE.1 (fo _ (by rw [a11.1]; simp) st.2.2.2.1), isMx_ext a12 hE.1 (fo _ (by rw [a12.1]; simp) st.2.2.2.2.1), hco, coG_ext a14 hE.1 (by rw [(hF (d + 1) (hSd _ d1) (nd _ d1)).2.2]) (by rw [(hF (d + 1) (hSd _ d1) (nd _ d1)).2.2]) dq, hcs, coS_keep a16 hE.1 (fun q hq => hF q (hSd q hq) (nd q hq)), a17, ⟨fun q hr hd => ?_, fun q hr hs => ?_, a18.2.2⟩⟩
  · rcases hr with hr | ⟨hr, -⟩
    · exact a18.1 q hr hd
    · have := hlt q (hSd q hd); omega
  · rcases hr with hr | ⟨hr, -⟩
    · exact a18.2.1 q hr hs
    · have h1 : q < nn := by
        unfold statC at hs
        have b1 := hlt g (by rw [a1]; simp)
        have b2 := hlt (g + 28) (by rw [a7]; simp)
        omega
      omega
/-- COLUMN's corners searched -/
theorem isGT_col {T T2 : gTy} {J J2 : gJ} {Q Q2 : gR} {O O2 : gO} {nn g r d m n : Nat} {ck : Bool} {cr cd c2 : CL} {Sr Sd : Nat → Prop} (h : isGT T J Q O g r d m n ck cr cd Sr Sd) (hlt : ∀ q, (T q).1 ≠ 0 → q < nn) (hE : tExt T T2 nn) (hF : ∀ q, (T q).1 ≠ 0 → ¬ Sd q → J2 q = J q ∧ Q2 q = Q q ∧ O2 q = O q) (hco : coG T2 Q2 O2 (d + 1)) (hcs : coS T2 J2 Q2 O2 (d + 1) c2 (sGrow Sd T2 nn)) : isGT T2 J2 Q2 O2 g r d m n ck cr c2 Sr (sGrow Sd T2 nn) := by
  have st := gt_st h
  obtain ⟨a1, a2, a3, a4, a5, a6, a7, a8, a9, a10, a11, a12, a13, a14, a15, a16, a17, a18⟩ := h
  have hSr : ∀ q, Sr q → (T q).1 ≠ 0 := by obtain ⟨_, _, _, _, _, h, _⟩ := a15; exact h
  have fo : ∀ q, (T q).1 ≠ 0 → statC g q → O2 q = O q := fun q hq hs => (hF q hq (fun z => a18.2.2 q z hs)).2.2
  have og := fo g (by rw [a1]; simp) st.1
  have nd : ∀ q, Sr q → ¬ Sd q := a18.1
  have d1 : Sr (r + 1) := by obtain ⟨_, _, _, _, _, _, h, _⟩ := a15; exact h.1
  have dq : Q2 (r + 1 + 4) = Q (r + 1 + 4) := (hF _ (by rw [a13.2.2.2.2.1]; simp) (fun z => a18.2.2 _ z st.2.2.2.2.2.2.2.2.1)).2.1
  refine ⟨by rw [hE.1 g (by rw [a1]; simp)]; exact a1, by rw [og]; exact a2, by rw [og]; exact a3, by rw [og]; exact a4, by rw [og]; exact a5, by rw [og]; exact a6, by rw [hE.1 _ (by rw [a7]; simp)]; exact a7, by rw [hE.1 _ (by rw [a8]; simp)]; exact a8, isPl_ext a9 hE.1 (fo r (by rw [a9.1]; simp) st.2.1), isPl_ext a10 hE.1 (fo d (by rw [a10.1]; simp) st.2.2.1), isMx_ext a11 hE.1 (fo _ (by rw [a11.1]; simp) st.2.2.2.1), isMx_ext a12 hE.1 (fo _ (by rw [a12.1]; simp) st.2.2.2.2.1), coG_ext a13 hE.1 (by rw [(hF (r + 1) (hSr _ d1) (nd _ d1)).2.2]) (by rw [(hF (r + 1) (hSr _ d1) (nd _ d1)).2.2]) dq, hco, coS_keep a15 hE.1 (fun q hq => hF q (hSr q hq) (nd q hq)), hcs, a17, ⟨fun q hr hd => ?_, a18.2.1, fun q hr hs => ?_⟩⟩
  · rcases hd with hd | ⟨hd, -⟩
    · exact a18.1 q hr hd
    · have := hlt q (hSr q hr); omega
  · rcases hr with hr | ⟨hr, -⟩
    · exact a18.2.2 q hr hs
    · have h1 : q < nn := by
        unfold statC at hs
        have b1 := hlt g (by rw [a1]; simp)
        have b2 := hlt (g + 28) (by rw [a7]; simp)
        omega
      omega
def gsCr (s : GS) : CL := sU (gsP1 s) (gsn s) (2 ^ gsn s - 1) (2 ^ gsm s - 1)
def gsCd (s : GS) : CL := sU (gsP0 s) (gsm s) (2 ^ gsm s - 1) (2 ^ gsn s - 1)
def knowPost (G : gG) (T : gTy) (I : gI) (J : gJ) (O : gO) (nn g r d mr md : Nat) (H1 : Heap) : Prop := ∃ (T2 : gTy) (J2 : gJ) (Q2 : gR) (O2 : gO) (Sr2 Sd2 : Nat → Prop), gP G T2 I J2 Q2 O2 H1 ∧ (∀ q, (T2 q).1 ≠ 0 → (T q).1 ≠ 0 ∨ nn ≤ q) ∧ isGT T2 J2 Q2 O2 g r d mr md true (gsCr (gsI I g r d mr md)) (gsCd (gsI I g r d mr md)) Sr2 Sd2 ∧ ∀ q, statC g q → q ≠ g → (T q).1 ≠ 0 → J2 q = J q ∧ O2 q = O q
set_option maxHeartbeats 4000000 in
set_option maxRecDepth 100000 in
theorem c_X4_turn (l : Launch) {G : gG} {T : gTy} {I : gI} {J : gJ} {Q : gR} {O : gO} {H : Heap} (hP : gP G T I J Q O H) {g r d mr md : Nat} {ck : Bool} {cr cd : CL} {Sr Sd : Nat → Prop}  (hg : isGT T J Q O g r d mr md ck cr cd Sr Sd) (hck : ckOK ck cr cd mr md (I (r + 9)) (I (d + 9))) : Met l yX4_turn (gw yX4_turn cX4_turn 2 (some (.int))) ({ frames := 0, cells := 0, slots := 0, locals := 0 } : Room) (gPc G H [.ref g]) (gQc (gF T H) (fun x H1 => rTurn (gsI I g r d mr md) (fun x1 s1 => x = some (.int x1) ∧ gtG G T H.size g s1 H1) )) 0 0 (gF T H) := by
  refine g_met [(0, .ref g)] (by decide) rfl (by exact Nat.le_of_ble_eq_true rfl) ?_
  intro p e s m below meth c hC hs ls hl
  have hx := hC.1.1
  have hb := hC.1.2.1
  have hS : va_S (gF T H) s.heap H [] := hs ▸ va_S.rf
  have hTA : ∀ q, (T q).1 ≠ 0 → gF T H q := fun q h => Or.inl h
  have hA : ∀ q, s.heap.size ≤ q → gF T H q := fun q h => Or.inr (hs ▸ h)
  generalize hAe : gF T H = A at hS hTA hA ⊢
  have hg_lo8 := hg.2.2.2.2.2.2.2.2.1.2.2.2.2.2.2.2.2.1
  have hg_hi8 := hg.2.2.2.2.2.2.2.2.1.2.2.2.2.2.2.2.2.2
  have hg_lo9 := hg.2.2.2.2.2.2.2.2.2.1.2.2.2.2.2.2.2.2.1
  have hg_hi9 := hg.2.2.2.2.2.2.2.2.2.1.2.2.2.2.2.2.2.2.2
  have hg_ad := hg.2.2.2.2.2.2.2.2.2.2.2.2.2.2.2.2.1
  refine lv_aload_n hx hb dX4_turn_0 rfl (lv_at hl 0 rfl) ?_
  refine g_get hC hP hg.1 rfl inX4 0 (by decide) q1_115 hg.2.1 dX4_turn_1 ?_
  refine lv_astore_n (lv' := [(1, .ref r), (0, .ref g)]) hx hb dX4_turn_4 rfl hl (by decide) rfl (fun ls hl => ?_)
  refine lv_aload_n hx hb dX4_turn_5 rfl (lv_at hl 1 rfl) ?_
  refine lv_aload_n hx hb dX4_turn_6 rfl (lv_at hl 1 rfl) ?_
  refine g_get hC hP hg.1 rfl inX4 1 (by decide) q1_116 hg.2.2.1 dX4_turn_7 ?_
  refine g_put hC hP hS hTA hg.1 rfl inX4 tyX4 tyX4_ok nmX4 0 (by decide) q1_115 rfl (ty := tyX4 0) (by decide) rfl rfl dX4_turn_10 (fun H1 locs2 hP hS hz4 => ?_)
  obtain ⟨O3, hO3, hP⟩ : ∃ X : gO, X = au O g 0 (.ref d) ∧ gP G T I J Q X H1 := ⟨_, rfl, hP⟩
  refine lv_aload_n hx hb dX4_turn_13 rfl (lv_at hl 1 rfl) ?_
  refine lv_aload_n hx hb dX4_turn_14 rfl (lv_at hl 0 rfl) ?_
  refine g_put hC hP hS hTA hg.1 rfl inX4 tyX4 tyX4_ok nmX4 1 (by decide) q1_116 rfl (ty := tyX4 1) (by decide) rfl rfl dX4_turn_15 (fun H5 locs6 hP hS hz8 => ?_)
  obtain ⟨O7, hO7, hP⟩ : ∃ X : gO, X = au O3 g 1 (.ref r) ∧ gP G T I J Q X H5 := ⟨_, rfl, hP⟩
  refine lv_iconst (v := nI 1) hx hb dX4_turn_18 (by decide) ?_
  refine g_retci hC hS ?_ dX4_turn_19
  exact ⟨rfl, T, I, J, Q, O7, d, r, ck, cd, cr, Sd, Sr, hP, fun _ h => Or.inl h, isGT_turn hg hO3 hO7, fun h => ⟨(hck h).2, (hck h).1⟩, rfl, rfl, rfl, rfl, rfl⟩
set_option maxHeartbeats 4000000 in
set_option maxRecDepth 100000 in
theorem c_X4_left (l : Launch) {G : gG} {T : gTy} {I : gI} {J : gJ} {Q : gR} {O : gO} {H : Heap} (hP : gP G T I J Q O H) {g r d mr md : Nat} {ck : Bool} {cr cd : CL} {Sr Sd : Nat → Prop} {q : Int32} (hg : isGT T J Q O g r d mr md ck cr cd Sr Sd) (hck : ckOK ck cr cd mr md (I (r + 9)) (I (d + 9))) : Met l yX4_left (gw yX4_left cX4_left 2 (some (.int))) ({ frames := 5, cells := 0, slots := 0, locals := 120 } : Room) (gPc G H [.ref g, .int q]) (gQc (gF T H) (fun x H1 => rLeft (gsI I g r d mr md) (fun x1 s1 => x = some (.int x1) ∧ gtG G T H.size g s1 H1) q)) 0 0 (gF T H) := by
  refine g_met [(0, .ref g), (1, .int q)] (by decide) rfl (by exact Nat.le_of_ble_eq_true rfl) ?_
  intro p e s m below meth c hC hs ls hl
  have hx := hC.1.1
  have hb := hC.1.2.1
  have hS : va_S (gF T H) s.heap H [] := hs ▸ va_S.rf
  have hTA : ∀ q, (T q).1 ≠ 0 → gF T H q := fun q h => Or.inl h
  have hA : ∀ q, s.heap.size ≤ q → gF T H q := fun q h => Or.inr (hs ▸ h)
  generalize hAe : gF T H = A at hS hTA hA ⊢
  have hg_lo8 := hg.2.2.2.2.2.2.2.2.1.2.2.2.2.2.2.2.2.1
  have hg_hi8 := hg.2.2.2.2.2.2.2.2.1.2.2.2.2.2.2.2.2.2
  have hg_lo9 := hg.2.2.2.2.2.2.2.2.2.1.2.2.2.2.2.2.2.2.1
  have hg_hi9 := hg.2.2.2.2.2.2.2.2.2.1.2.2.2.2.2.2.2.2.2
  have hg_ad := hg.2.2.2.2.2.2.2.2.2.2.2.2.2.2.2.2.1
  refine lv_iload_n hx hb dX4_left_0 rfl (lv_at hl 1 rfl) ?_
  refine g_cp (g_rS (As := [.int q]) hC (c_X4_isWho l (q := q)) ⟨q1_153, q1_151, q1_152, q1_1⟩ dd_X4_isWho ⟨Nat.le_of_ble_eq_true rfl, Nat.le_of_ble_eq_true rfl, rfl, rfl⟩ hl.1 rfl (Nat.le_of_ble_eq_true rfl) dX4_left_1 ⟨Nat.le_of_ble_eq_true rfl, Nat.le_of_ble_eq_true rfl⟩) ?_
  refine W.eq (g2 := F0 m 4 ls [.int (gb (isW q))]) rfl ?_
  refine lv_if_ne (tgt := 13) hx hb dX4_left_4 (by decide) (fun c4 => ?_) (fun c4 => ?_)
  · have c4 := gb_t c4
    rcases isW_c c4 with rfl | rfl
    · refine lv_aload_n hx hb dX4_left_13 rfl (lv_at hl 0 rfl) ?_
      refine g_get hC hP hg.1 rfl inX4 2 (by decide) q1_117 hg.2.2.2.1 dX4_left_14 ?_
      refine lv_aload_n hx hb dX4_left_17 rfl (lv_at hl 0 rfl) ?_
      refine g_get hC hP hg.1 rfl inX4 0 (by decide) q1_115 hg.2.1 dX4_left_18 ?_
      refine lv_aload_n hx hb dX4_left_21 rfl (lv_at hl 0 rfl) ?_
      refine g_get hC hP hg.1 rfl inX4 1 (by decide) q1_116 hg.2.2.1 dX4_left_22 ?_
      refine g_cc (g_rV (As := [.ref r, .ref d]) hC hP (c_X1_run l hP (D := g + 27) (b := r) (ch := mr) (d := d) (dh := md) hg.2.2.2.2.2.2.2.1 hg.2.2.2.2.2.2.2.2.1 hg.2.2.2.2.2.2.2.2.2.1) hg.2.2.2.2.2.2.2.1 rfl ⟨q2_36, q2_33, q2_34, q2_35, q1_5⟩ dd_X1_run ⟨Nat.le_of_ble_eq_true rfl, Nat.le_of_ble_eq_true rfl, rfl, rfl⟩ hl.1 rfl (Nat.le_of_ble_eq_true rfl) dX4_left_25 ⟨Nat.le_of_ble_eq_true rfl, Nat.le_of_ble_eq_true rfl⟩) hS (fun q h => h.elim (hTA q) (fun z => hA q (Nat.le_trans hS.1 z))) (fun r5 H1 locs2 hq6 hS hz3 hfr4 => ?_)
      obtain ⟨rfl, hP⟩ := hq6
      obtain ⟨O7, hO7, hP⟩ : ∃ X : gO, X = drO O (g + 27) (gsDr (gsI I g r d mr md)).1 (gsDr (gsI I g r d mr md)).2.1 (gsDr (gsI I g r d mr md)).2.2 ∧ gP G T I J Q X H1 := ⟨_, rfl, hP⟩
      have hg2 : isGT T J Q O7 g r d mr md ck cr cd Sr Sd := isGT_o hg rfl (fun q hq => by rw [hO7]; exact drO_out hq)
      have fd0 : O7 (g + 27) 0 = .int (nI (gsDr (gsI I g r d mr md)).1) := by rw [hO7]; simp [drO, au, gu]
      have fd1 : O7 (g + 27) 1 = .int (nI (gsDr (gsI I g r d mr md)).2.1) := by rw [hO7]; simp [drO, au, gu]
      have fd2 : O7 (g + 27) 2 = .int (nI (gsDr (gsI I g r d mr md)).2.2) := by rw [hO7]; simp [drO, au, gu]
      refine W.eq (g2 := F0 m 28 ls []) rfl ?_
      refine lv_iload_n hx hb dX4_left_28 rfl (lv_at hl 1 rfl) ?_
      refine lv_if_ne (tgt := 42) hx hb dX4_left_29 (by decide) (fun q => absurd (by decide) q) (fun _ => ?_)
      refine lv_aload_n hx hb dX4_left_32 rfl (lv_at hl 0 rfl) ?_
      refine g_get hC hP hg2.1 rfl inX4 2 (by decide) q1_117 hg2.2.2.2.1 dX4_left_33 ?_
      refine g_get hC hP hg2.2.2.2.2.2.2.2.1 rfl inX1 0 (by decide) q1_103 fd0 dX4_left_36 ?_
      refine lv_goto (tgt := 49) hx hb dX4_left_39 (by decide) ?_
      refine g_retci hC hS ?_ dX4_left_49
      exact Or.inr (Or.inl ⟨rfl, rfl, gt_same hg2 hck hP⟩)
    · refine lv_aload_n hx hb dX4_left_13 rfl (lv_at hl 0 rfl) ?_
      refine g_get hC hP hg.1 rfl inX4 2 (by decide) q1_117 hg.2.2.2.1 dX4_left_14 ?_
      refine lv_aload_n hx hb dX4_left_17 rfl (lv_at hl 0 rfl) ?_
      refine g_get hC hP hg.1 rfl inX4 0 (by decide) q1_115 hg.2.1 dX4_left_18 ?_
      refine lv_aload_n hx hb dX4_left_21 rfl (lv_at hl 0 rfl) ?_
      refine g_get hC hP hg.1 rfl inX4 1 (by decide) q1_116 hg.2.2.1 dX4_left_22 ?_
      refine g_cc (g_rV (As := [.ref r, .ref d]) hC hP (c_X1_run l hP (D := g + 27) (b := r) (ch := mr) (d := d) (dh := md) hg.2.2.2.2.2.2.2.1 hg.2.2.2.2.2.2.2.2.1 hg.2.2.2.2.2.2.2.2.2.1) hg.2.2.2.2.2.2.2.1 rfl ⟨q2_36, q2_33, q2_34, q2_35, q1_5⟩ dd_X1_run ⟨Nat.le_of_ble_eq_true rfl, Nat.le_of_ble_eq_true rfl, rfl, rfl⟩ hl.1 rfl (Nat.le_of_ble_eq_true rfl) dX4_left_25 ⟨Nat.le_of_ble_eq_true rfl, Nat.le_of_ble_eq_true rfl⟩) hS (fun q h => h.elim (hTA q) (fun z => hA q (Nat.le_trans hS.1 z))) (fun r13 H9 locs10 hq14 hS hz11 hfr12 => ?_)
      obtain ⟨rfl, hP⟩ := hq14
      obtain ⟨O15, hO15, hP⟩ : ∃ X : gO, X = drO O (g + 27) (gsDr (gsI I g r d mr md)).1 (gsDr (gsI I g r d mr md)).2.1 (gsDr (gsI I g r d mr md)).2.2 ∧ gP G T I J Q X H9 := ⟨_, rfl, hP⟩
      have hg2 : isGT T J Q O15 g r d mr md ck cr cd Sr Sd := isGT_o hg rfl (fun q hq => by rw [hO15]; exact drO_out hq)
      have fd0 : O15 (g + 27) 0 = .int (nI (gsDr (gsI I g r d mr md)).1) := by rw [hO15]; simp [drO, au, gu]
      have fd1 : O15 (g + 27) 1 = .int (nI (gsDr (gsI I g r d mr md)).2.1) := by rw [hO15]; simp [drO, au, gu]
      have fd2 : O15 (g + 27) 2 = .int (nI (gsDr (gsI I g r d mr md)).2.2) := by rw [hO15]; simp [drO, au, gu]
      refine W.eq (g2 := F0 m 28 ls []) rfl ?_
      refine lv_iload_n hx hb dX4_left_28 rfl (lv_at hl 1 rfl) ?_
      refine lv_if_ne (tgt := 42) hx hb dX4_left_29 (by decide) (fun _ => ?_) (fun q => absurd q (by decide))
      refine lv_aload_n hx hb dX4_left_42 rfl (lv_at hl 0 rfl) ?_
      refine g_get hC hP hg2.1 rfl inX4 2 (by decide) q1_117 hg2.2.2.2.1 dX4_left_43 ?_
      refine g_get hC hP hg2.2.2.2.2.2.2.2.1 rfl inX1 1 (by decide) q1_105 fd1 dX4_left_46 ?_
      refine g_retci hC hS ?_ dX4_left_49
      exact Or.inr (Or.inr ⟨rfl, rfl, gt_same hg2 hck hP⟩)
  · have c4 := gb_f c4
    refine lv_aload_n hx hb dX4_left_7 rfl (lv_at hl 0 rfl) ?_
    refine lv_iconst (v := (-1)) hx hb dX4_left_8 (by decide) ?_
    refine g_cc (g_rV (As := [.int (-1 : Int32)]) hC hP (c_X4_refuse l hP (g := g) (q := (-1 : Int32)) (j := 1) (by first | assumption | omega) (by decide) (by omega)) hg.1 rfl ⟨q1_138, q1_135, q1_137, qs_0, q1_1⟩ dd_X4_refuse ⟨Nat.le_of_ble_eq_true rfl, Nat.le_of_ble_eq_true rfl, rfl, rfl⟩ hl.1 rfl (Nat.le_of_ble_eq_true rfl) dX4_left_9 ⟨Nat.le_of_ble_eq_true rfl, Nat.le_of_ble_eq_true rfl⟩) hS (fun q h => h.elim (hTA q) (fun z => hA q (Nat.le_trans hS.1 z))) (fun r21 H17 locs18 hq22 hS hz19 hfr20 => ?_)
    obtain ⟨rfl, hP⟩ := hq22
    obtain ⟨I23, hI23, hP⟩ : ∃ I23 : gI, I23 = au I (g + 28) 1 (I (g + 28) 1 + 1) ∧ gP G T I23 J Q O H17 := ⟨_, rfl, hP⟩
    refine W.eq (g2 := F0 m 12 ls [.int (-1 : Int32)]) rfl ?_
    refine g_retci hC hS ?_ dX4_left_12
    exact Or.inl ⟨c4, rfl, gt_ref hg hck hI23 hP⟩
set_option maxHeartbeats 4000000 in
set_option maxRecDepth 100000 in
theorem c_X4_times (l : Launch) {G : gG} {T : gTy} {I : gI} {J : gJ} {Q : gR} {O : gO} {H : Heap} (hP : gP G T I J Q O H) {g r d mr md : Nat} {ck : Bool} {cr cd : CL} {Sr Sd : Nat → Prop}  (hg : isGT T J Q O g r d mr md ck cr cd Sr Sd) (hck : ckOK ck cr cd mr md (I (r + 9)) (I (d + 9))) : Met l yX4_times (gw yX4_times cX4_times 1 (some (.int))) ({ frames := 5, cells := 0, slots := 0, locals := 120 } : Room) (gPc G H [.ref g]) (gQc (gF T H) (fun x H1 => rTimes (gsI I g r d mr md) (fun x1 s1 => x = some (.int x1) ∧ gtG G T H.size g s1 H1) )) 0 0 (gF T H) := by
  refine g_met [(0, .ref g)] (by decide) rfl (by exact Nat.le_of_ble_eq_true rfl) ?_
  intro p e s m below meth c hC hs ls hl
  have hx := hC.1.1
  have hb := hC.1.2.1
  have hS : va_S (gF T H) s.heap H [] := hs ▸ va_S.rf
  have hTA : ∀ q, (T q).1 ≠ 0 → gF T H q := fun q h => Or.inl h
  have hA : ∀ q, s.heap.size ≤ q → gF T H q := fun q h => Or.inr (hs ▸ h)
  generalize hAe : gF T H = A at hS hTA hA ⊢
  have hg_lo8 := hg.2.2.2.2.2.2.2.2.1.2.2.2.2.2.2.2.2.1
  have hg_hi8 := hg.2.2.2.2.2.2.2.2.1.2.2.2.2.2.2.2.2.2
  have hg_lo9 := hg.2.2.2.2.2.2.2.2.2.1.2.2.2.2.2.2.2.2.1
  have hg_hi9 := hg.2.2.2.2.2.2.2.2.2.1.2.2.2.2.2.2.2.2.2
  have hg_ad := hg.2.2.2.2.2.2.2.2.2.2.2.2.2.2.2.2.1
  refine lv_aload_n hx hb dX4_times_0 rfl (lv_at hl 0 rfl) ?_
  refine g_get hC hP hg.1 rfl inX4 2 (by decide) q1_117 hg.2.2.2.1 dX4_times_1 ?_
  refine lv_aload_n hx hb dX4_times_4 rfl (lv_at hl 0 rfl) ?_
  refine g_get hC hP hg.1 rfl inX4 0 (by decide) q1_115 hg.2.1 dX4_times_5 ?_
  refine lv_aload_n hx hb dX4_times_8 rfl (lv_at hl 0 rfl) ?_
  refine g_get hC hP hg.1 rfl inX4 1 (by decide) q1_116 hg.2.2.1 dX4_times_9 ?_
  refine g_cc (g_rV (As := [.ref r, .ref d]) hC hP (c_X1_run l hP (D := g + 27) (b := r) (ch := mr) (d := d) (dh := md) hg.2.2.2.2.2.2.2.1 hg.2.2.2.2.2.2.2.2.1 hg.2.2.2.2.2.2.2.2.2.1) hg.2.2.2.2.2.2.2.1 rfl ⟨q2_36, q2_33, q2_34, q2_35, q1_5⟩ dd_X1_run ⟨Nat.le_of_ble_eq_true rfl, Nat.le_of_ble_eq_true rfl, rfl, rfl⟩ hl.1 rfl (Nat.le_of_ble_eq_true rfl) dX4_times_12 ⟨Nat.le_of_ble_eq_true rfl, Nat.le_of_ble_eq_true rfl⟩) hS (fun q h => h.elim (hTA q) (fun z => hA q (Nat.le_trans hS.1 z))) (fun r5 H1 locs2 hq6 hS hz3 hfr4 => ?_)
  obtain ⟨rfl, hP⟩ := hq6
  obtain ⟨O7, hO7, hP⟩ : ∃ X : gO, X = drO O (g + 27) (gsDr (gsI I g r d mr md)).1 (gsDr (gsI I g r d mr md)).2.1 (gsDr (gsI I g r d mr md)).2.2 ∧ gP G T I J Q X H1 := ⟨_, rfl, hP⟩
  have hg2 : isGT T J Q O7 g r d mr md ck cr cd Sr Sd := isGT_o hg rfl (fun q hq => by rw [hO7]; exact drO_out hq)
  have fd0 : O7 (g + 27) 0 = .int (nI (gsDr (gsI I g r d mr md)).1) := by rw [hO7]; simp [drO, au, gu]
  have fd1 : O7 (g + 27) 1 = .int (nI (gsDr (gsI I g r d mr md)).2.1) := by rw [hO7]; simp [drO, au, gu]
  have fd2 : O7 (g + 27) 2 = .int (nI (gsDr (gsI I g r d mr md)).2.2) := by rw [hO7]; simp [drO, au, gu]
  refine W.eq (g2 := F0 m 15 ls []) rfl ?_
  refine lv_aload_n hx hb dX4_times_15 rfl (lv_at hl 0 rfl) ?_
  refine g_get hC hP hg2.1 rfl inX4 2 (by decide) q1_117 hg2.2.2.2.1 dX4_times_16 ?_
  refine g_get hC hP hg2.2.2.2.2.2.2.2.1 rfl inX1 2 (by decide) q1_107 fd2 dX4_times_19 ?_
  refine g_retci hC hS ?_ dX4_times_22
  exact ⟨rfl, gt_same hg2 hck hP⟩
set_option maxHeartbeats 4000000 in
set_option maxRecDepth 100000 in
theorem c_X4_knowCorners (l : Launch) {G : gG} {T : gTy} {I : gI} {J : gJ} {Q : gR} {O : gO} {H : Heap} (hP : gP G T I J Q O H) {g r d mr md : Nat} {ck : Bool} {cr cd : CL} {Sr Sd : Nat → Prop} (hg : isGT T J Q O g r d mr md ck cr cd Sr Sd) (hck : ckOK ck cr cd mr md (I (r + 9)) (I (d + 9))) : Met l yX4_knowCorners (gw yX4_knowCorners cX4_knowCorners 1 (none)) ({ frames := 6, cells := 900, slots := 3600, locals := 134 } : Room) (gPc G H [.ref g]) (gQc (gF T H) (fun x H1 => x = none ∧ knowPost G T I J O H.size g r d mr md H1)) 900 3600 (gF T H) := by
  refine g_met [(0, .ref g)] (by decide) rfl (by exact Nat.le_of_ble_eq_true rfl) ?_
  intro p e s m below meth c hC hs ls hl
  have hx := hC.1.1
  have hb := hC.1.2.1
  have hS : va_S (gF T H) s.heap H [] := hs ▸ va_S.rf
  have hTA : ∀ q, (T q).1 ≠ 0 → gF T H q := fun q h => Or.inl h
  have hA : ∀ q, s.heap.size ≤ q → gF T H q := fun q h => Or.inr (hs ▸ h)
  generalize hAe : gF T H = A at hS hTA hA ⊢
  have hg_lo8 := hg.2.2.2.2.2.2.2.2.1.2.2.2.2.2.2.2.2.1
  have hg_hi8 := hg.2.2.2.2.2.2.2.2.1.2.2.2.2.2.2.2.2.2
  have hg_lo9 := hg.2.2.2.2.2.2.2.2.2.1.2.2.2.2.2.2.2.2.1
  have hg_hi9 := hg.2.2.2.2.2.2.2.2.2.1.2.2.2.2.2.2.2.2.2
  have hg_ad := hg.2.2.2.2.2.2.2.2.2.2.2.2.2.2.2.2.1
  have hlt0 : ∀ q, (T q).1 ≠ 0 → q < H.size := fun q hq => hP.lt hq
  have hst := gt_st hg
  have hp8 := pow1_lt hg_hi8
  have hp9 := pow1_lt hg_hi9
  refine lv_aload_n hx hb dX4_knowCorners_0 rfl (lv_at hl 0 rfl) ?_
  refine g_get hC hP hg.1 rfl inX4 4 (by decide) q1_119 hg.2.2.2.2.2.1 dX4_knowCorners_1 ?_
  refine lv_if_ne (tgt := 54) hx hb dX4_knowCorners_4 (by decide) (fun c4 => ?_) (fun c4 => ?_)
  · have c4 := gb_t c4
    refine W.widen (k := 900) (n := 3600) (by omega) (by omega) ?_
    refine g_retcv hC hS ?_ dX4_knowCorners_54
    refine ⟨rfl, T, J, Q, O, Sr, Sd, hP, fun _ h => Or.inl h, ?_, fun _ _ _ _ => ⟨rfl, rfl⟩⟩
    have h1 := (hck c4).1
    have h2 := (hck c4).2
    rw [show gsCr (gsI I g r d mr md) = cr from h1.symm, show gsCd (gsI I g r d mr md) = cd from h2.symm]
    rw [c4] at hg
    exact hg
  · have c4 := gb_f c4
    refine lv_aload_n hx hb dX4_knowCorners_7 rfl (lv_at hl 0 rfl) ?_
    refine g_get hC hP hg.1 rfl inX4 0 (by decide) q1_115 hg.2.1 dX4_knowCorners_8 ?_
    refine g_get hC hP hg.2.2.2.2.2.2.2.2.1.1 rfl inX3 1 (by decide) q1_80 hg.2.2.2.2.2.2.2.2.1.2.2.1 dX4_knowCorners_11 ?_
    refine lv_aload_n hx hb dX4_knowCorners_14 rfl (lv_at hl 0 rfl) ?_
    refine g_get hC hP hg.1 rfl inX4 0 (by decide) q1_115 hg.2.1 dX4_knowCorners_15 ?_
    refine g_cp (g_rV (As := []) hC hP (c_X3_allBits l hP (b := r) (ch := mr) hg.2.2.2.2.2.2.2.2.1) hg.2.2.2.2.2.2.2.2.1.1 rfl ⟨q2_19, q2_16, q2_17, q2_18, q1_2⟩ dd_X3_allBits ⟨Nat.le_of_ble_eq_true rfl, Nat.le_of_ble_eq_true rfl, rfl, rfl⟩ hl.1 rfl (Nat.le_of_ble_eq_true rfl) dX4_knowCorners_18 ⟨Nat.le_of_ble_eq_true rfl, Nat.le_of_ble_eq_true rfl⟩) ?_
    refine W.eq (g2 := F0 m 21 ls [.int (nI (2 ^ mr - 1)), .ref (r + 1)]) rfl ?_
    refine lv_aload_n hx hb dX4_knowCorners_21 rfl (lv_at hl 0 rfl) ?_
    refine g_get hC hP hg.1 rfl inX4 1 (by decide) q1_116 hg.2.2.1 dX4_knowCorners_22 ?_
    refine g_cc (g_rV (As := [.int (nI (2 ^ mr - 1)), .ref d]) hC hP (c_X0_searchAll l hP (k := r + 1) (b := d) (ch := md) (ob := 2 ^ mr - 1) (cl := cr) (Sx := Sr) hg.2.2.2.2.2.2.2.2.2.2.2.2.1 hg.2.2.2.2.2.2.2.2.2.2.2.2.2.2.1 hg.2.2.2.2.2.2.2.2.2.1 (fun z => hg.2.2.2.2.2.2.2.2.2.2.2.2.2.2.2.2.2.2.1 d z hst.2.2.1) (by first | assumption | omega)) hg.2.2.2.2.2.2.2.2.2.2.2.2.1.1 rfl ⟨q2_88, q2_85, q2_86, q2_87, q1_3⟩ dd_X0_searchAll ⟨Nat.le_of_ble_eq_true rfl, Nat.le_of_ble_eq_true rfl, rfl, rfl⟩ hl.1 rfl (Nat.le_of_ble_eq_true rfl) dX4_knowCorners_25 ⟨Nat.le_of_ble_eq_true rfl, Nat.le_of_ble_eq_true rfl⟩) hS (fun q h => h.elim (hTA q) (fun z => hA q (Nat.le_trans hS.1 z))) (fun r5 H1 locs2 hq6 hS hz3 hfr4 => ?_)
    obtain ⟨rfl, T7, J8, Q9, O10, hP, hE0, hF0, hco0, hcs0⟩ := hq6
    have hg1 := isGT_row hg hlt0 hE0 hF0 hco0 hcs0
    have hTA : ∀ q, (T7 q).1 ≠ 0 → A q := fun q hq => (hE0.2 q hq).elim (hTA q) (fun z => hA q (by rw [hs]; exact z))
    have hlt1 : ∀ q, (T7 q).1 ≠ 0 → q < H1.size := fun q hq => hP.lt hq
    refine W.eq (g2 := F0 m 28 ls []) rfl ?_
    refine lv_aload_n hx hb dX4_knowCorners_28 rfl (lv_at hl 0 rfl) ?_
    refine g_get hC hP hg1.1 rfl inX4 1 (by decide) q1_116 hg1.2.2.1 dX4_knowCorners_29 ?_
    refine g_get hC hP hg1.2.2.2.2.2.2.2.2.2.1.1 rfl inX3 1 (by decide) q1_80 hg1.2.2.2.2.2.2.2.2.2.1.2.2.1 dX4_knowCorners_32 ?_
    refine lv_aload_n hx hb dX4_knowCorners_35 rfl (lv_at hl 0 rfl) ?_
    refine g_get hC hP hg1.1 rfl inX4 1 (by decide) q1_116 hg1.2.2.1 dX4_knowCorners_36 ?_
    refine g_cp (g_rV (As := []) hC hP (c_X3_allBits l hP (b := d) (ch := md) hg1.2.2.2.2.2.2.2.2.2.1) hg1.2.2.2.2.2.2.2.2.2.1.1 rfl ⟨q2_19, q2_16, q2_17, q2_18, q1_2⟩ dd_X3_allBits ⟨Nat.le_of_ble_eq_true rfl, Nat.le_of_ble_eq_true rfl, rfl, rfl⟩ hl.1 rfl (Nat.le_of_ble_eq_true rfl) dX4_knowCorners_39 ⟨Nat.le_of_ble_eq_true rfl, Nat.le_of_ble_eq_true rfl⟩) ?_
    refine W.eq (g2 := F0 m 42 ls [.int (nI (2 ^ md - 1)), .ref (d + 1)]) rfl ?_
    refine lv_aload_n hx hb dX4_knowCorners_42 rfl (lv_at hl 0 rfl) ?_
    refine g_get hC hP hg1.1 rfl inX4 0 (by decide) q1_115 hg1.2.1 dX4_knowCorners_43 ?_
    refine g_cc (g_rV (As := [.int (nI (2 ^ md - 1)), .ref r]) hC hP (c_X0_searchAll l hP (k := d + 1) (b := r) (ch := mr) (ob := 2 ^ md - 1) (cl := cd) (Sx := Sd) hg1.2.2.2.2.2.2.2.2.2.2.2.2.2.1 hg1.2.2.2.2.2.2.2.2.2.2.2.2.2.2.2.1 hg1.2.2.2.2.2.2.2.2.1 (fun z => hg1.2.2.2.2.2.2.2.2.2.2.2.2.2.2.2.2.2.2.2 r z hst.2.1) (by first | assumption | omega)) hg1.2.2.2.2.2.2.2.2.2.2.2.2.2.1.1 rfl ⟨q2_88, q2_85, q2_86, q2_87, q1_3⟩ dd_X0_searchAll ⟨Nat.le_of_ble_eq_true rfl, Nat.le_of_ble_eq_true rfl, rfl, rfl⟩ hl.1 rfl (Nat.le_of_ble_eq_true rfl) dX4_knowCorners_46 ⟨Nat.le_of_ble_eq_true rfl, Nat.le_of_ble_eq_true rfl⟩) hS (fun q h => h.elim (hTA q) (fun z => hA q (Nat.le_trans hS.1 z))) (fun r15 H11 locs12 hq16 hS hz13 hfr14 => ?_)
    obtain ⟨rfl, T17, J18, Q19, O20, hP, hE1, hF1, hco1, hcs1⟩ := hq16
    have hg2 := isGT_col hg1 hlt1 hE1 hF1 hco1 hcs1
    have hTA : ∀ q, (T17 q).1 ≠ 0 → A q := fun q hq => (hE1.2 q hq).elim (hTA q) (fun z => hA q (by rw [hs]; omega))
    refine W.eq (g2 := F0 m 49 ls []) rfl ?_
    refine lv_aload_n hx hb dX4_knowCorners_49 rfl (lv_at hl 0 rfl) ?_
    refine lv_iconst (v := nI 1) hx hb dX4_knowCorners_50 (by decide) ?_
    refine g_put hC hP hS hTA hg2.1 rfl inX4 tyX4 tyX4_ok nmX4 4 (by decide) q1_119 rfl (ty := tyX4 4) (by decide) rfl rfl dX4_knowCorners_51 (fun H21 locs22 hP hS hz24 => ?_)
    obtain ⟨O23, hO23, hP⟩ : ∃ X : gO, X = au O20 g 4 (.int (nI 1)) ∧ gP G T17 I J18 Q19 X H21 := ⟨_, rfl, hP⟩
    refine W.widen (k := 900) (n := 3600) (by omega) (by omega) ?_
    refine g_retcv hC hS ?_ dX4_knowCorners_54
    exact ⟨rfl, T17, J18, Q19, O23, _, _, hP, fun q hq => (hE1.2 q hq).elim (fun z => hE0.2 q z) (fun z => Or.inr (by omega)), isGT_ck (b := true) hg2 hO23, fun q a b c => ⟨(hF1 q (by rw [hE0.1 q c]; exact c) (fun z => hg.2.2.2.2.2.2.2.2.2.2.2.2.2.2.2.2.2.2.2 q z a)).1.trans (hF0 q c (fun z => hg.2.2.2.2.2.2.2.2.2.2.2.2.2.2.2.2.2.2.1 q z a)).1, (by rw [hO23, au_ne _ _ _ b]; exact (hF1 q (by rw [hE0.1 q c]; exact c) (fun z => hg.2.2.2.2.2.2.2.2.2.2.2.2.2.2.2.2.2.2.2 q z a)).2.2.trans (hF0 q c (fun z => hg.2.2.2.2.2.2.2.2.2.2.2.2.2.2.2.2.2.2.1 q z a)).2.2)⟩⟩
