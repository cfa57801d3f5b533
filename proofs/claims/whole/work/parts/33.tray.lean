/-! ===== trays ===== -/
def twS (w : Nat → Int32) (ch : Nat) : Nat → Int64 := fun j => if j < ch then (w j).toInt64 else 0
def twV (P w : Nat → Int32) (ch dh : Nat) : MixV := (twS w ch, tsum (twS w ch) 4, usedB (twS w ch) 4, ansB P (twS w ch) dh)
theorem twV_ok {P w : Nat → Int32} {ch dh : Nat} (h : dh ≤ 4) : vOK (twV P w ch dh) := ⟨msk_lt16 _ (Nat.le_refl 4), ansB_lt h⟩
theorem trX_eq {I : gI} {J : gJ} {b ch : Nat} : ∀ j, j < 4 → trX I J b ch j = twS (I (b + 10)) ch j := fun j hj => by
  show (if j < 4 then _ else _) = _
  rw [if_pos hj]
  rfl
def trayG (G : gG) (T : gTy) (I : gI) (J : gJ) (Q : gR) (O : gO) (b d ch dh : Nat) (x : Option Value) (H1 : Heap) : Prop := ∃ (J2 : gJ) (O2 : gO), gP G T I J2 Q O2 H1 ∧ (∀ q, q ≠ b + 12 → J2 q = J q) ∧ (∀ q, q ≠ b + 11 → O2 q = O q) ∧ O2 (b + 11) 0 = O (b + 11) 0 ∧ (((twV (I (d + 9)) (I (b + 10)) ch dh).2.1 = 0 ∧ x = some .null) ∨ (¬ (twV (I (d + 9)) (I (b + 10)) ch dh).2.1 = 0 ∧ x = some (.ref (b + 11)) ∧ mixIs J2 O2 (b + 11) (twV (I (d + 9)) (I (b + 10)) ch dh)))
theorem trayG_of {G : gG} {T : gTy} {I : gI} {J : gJ} {Q : gR} {O : gO} {b d ch dh : Nat} {x : Option Value} {H1 : Heap} (h : trayPost G T I J Q O b ch d dh x H1) : trayG G T I J Q O b d ch dh x H1 := by
  have e : tsum (trX I J b ch) 4 = tsum (twS (I (b + 10)) ch) 4 := tsum_congr 4 trX_eq
  have hj : ∀ q, q ≠ b + 12 → trJ I J b ch q = J q := fun q hq => gu_ne _ _ hq
  rcases h with ⟨h1, h2, h3⟩ | ⟨h1, h2, h3⟩
  · refine ⟨_, _, h3, hj, fun q hq => ?_, ?_, Or.inl ⟨e.symm.trans h1, h2⟩⟩
    · unfold trO1; rw [au_ne _ _ _ hq, au_ne _ _ _ hq]
    · unfold trO1; rw [au_row, gu_ne _ _ (by decide), au_row, gu_ne _ _ (by decide)]
  · refine ⟨_, _, h3, hj, fun q hq => ?_, ?_, Or.inr ⟨fun z => h1 (e.trans z), h2, fun j hj => ?_, ?_, ?_, ?_⟩⟩
    · unfold trO2 trO1; rw [au_ne _ _ _ hq, au_ne _ _ _ hq, au_ne _ _ _ hq]
    · unfold trO2 trO1; rw [au_row, gu_ne _ _ (by decide), au_row, gu_ne _ _ (by decide), au_row, gu_ne _ _ (by decide)]
    · unfold trJ
      rw [show b + 11 + 1 = b + 11 + 1 from rfl, gu_eq]
      exact trX_eq j hj
    · unfold trO2 trO1
      rw [au_row, gu_ne _ _ (by decide), au_row, gu_ne _ _ (by decide), au_row, gu_eq, e]
      rfl
    · unfold trO2 trO1
      rw [au_row, gu_ne _ _ (by decide), au_row, gu_eq, usedB_congr 4 trX_eq]
      rfl
    · unfold trO2
      rw [au_row, gu_eq, ansB_congr trX_eq]
      rfl
theorem isMx_f0 {T : gTy} {O O2 : gO} {a : Nat} (h : isMx T O a) (ho : O2 a 0 = O a 0) : isMx T O2 a := ⟨h.1, ho.trans h.2.1, h.2.2⟩
theorem isGT_tray {T : gTy} {J J2 : gJ} {Q : gR} {O O2 : gO} {g r d m n b : Nat} {ck : Bool} {cr cd : CL} {Sr Sd : Nat → Prop} (h : isGT T J Q O g r d m n ck cr cd Sr Sd) (hb : b = r ∨ b = d) (hj : ∀ q, q ≠ b + 12 → J2 q = J q) (ho : ∀ q, q ≠ b + 11 → O2 q = O q) (h0 : O2 (b + 11) 0 = O (b + 11) 0) : isGT T J2 Q O2 g r d m n ck cr cd Sr Sd := by
  have st := gt_st h
  obtain ⟨a1, a2, a3, a4, a5, a6, a7, a8, a9, a10, a11, a12, a13, a14, a15, a16, a17, a18⟩ := h
  have og := ho g (by omega)
  have sb : statC g (b + 11) ∧ statC g (b + 12) := by
    rcases hb with rfl | rfl
    · exact ⟨st.2.2.2.1, st.2.2.2.2.2.1⟩
    · exact ⟨st.2.2.2.2.1, st.2.2.2.2.2.2.1⟩
  have mx : ∀ a, isMx T O (a + 11) → isMx T O2 (a + 11) := fun a ha => by
    by_cases e : a = b
    · rw [e] at ha ⊢; exact isMx_f0 ha h0
    · exact isMx_ext ha (fun _ _ => rfl) (ho _ (by omega))
  exact ⟨a1, by rw [og]; exact a2, by rw [og]; exact a3, by rw [og]; exact a4, by rw [og]; exact a5, by rw [og]; exact a6, a7, a8, isPl_ext a9 (fun _ _ => rfl) (ho r (by omega)), isPl_ext a10 (fun _ _ => rfl) (ho d (by omega)), mx r a11, mx d a12, coG_ext a13 (fun _ _ => rfl) (by rw [ho (r + 1) (by omega)]) (by rw [ho (r + 1) (by omega)]) rfl, coG_ext a14 (fun _ _ => rfl) (by rw [ho (d + 1) (by omega)]) (by rw [ho (d + 1) (by omega)]) rfl, coS_out a15 (fun q hq => ⟨hj q (sep_ne a18.2.1 hq sb.2), rfl, ho q (sep_ne a18.2.1 hq sb.1)⟩), coS_out a16 (fun q hq => ⟨hj q (sep_ne a18.2.2 hq sb.2), rfl, ho q (sep_ne a18.2.2 hq sb.1)⟩), a17, a18⟩
theorem mixIs_keep {J J2 : gJ} {O O2 : gO} {a b : Nat} {v : MixV} (h : mixIs J O a v) (h1 : a ≠ b + 11) (hj : ∀ q, q ≠ b + 12 → J2 q = J q) (ho : ∀ q, q ≠ b + 11 → O2 q = O q) : mixIs J2 O2 a v := by
  unfold mixIs mxV at *
  rw [hj _ (by omega), ho _ h1]
  exact h
def gsT0 (s : GS) : MixV := twV (gsP1 s) (gsw0 s) (gsm s) (gsn s)
def gsT1 (s : GS) : MixV := twV (gsP0 s) (gsw1 s) (gsn s) (gsm s)
def adn (u n : Nat) : Nat := u &&& (15 ^^^ n)
theorem adn_lt {u n : Nat} (h : u < 16) : adn u n < 16 := Nat.lt_of_le_of_lt Nat.and_le_left h
theorem adn_eq {u n : Nat} (hu : u < 16) (hn : n < 16) : nI u &&& (nI n ^^^ (-1)) = nI (adn u n) := by
  have q : ∀ u, u < 16 → ∀ n, n < 16 → nI u &&& (nI n ^^^ (-1)) = nI (adn u n) := by decide +kernel
  exact q u hu n hn
theorem fst4_b {p : Nat → Bool} {k : Nat} (h : fst4 p = some k) : k < 2 ^ 31 := by
  have := (fst4_lt h)
  omega
section REL4
variable (s : GS) (K : Int32 → GS → Prop) (L : Int64 → GS → Prop)
def rIs : Prop := (((gsT0 s).2.1 = 0 ∨ (gsT1 s).2.1 = 0) ∧ K (-5) (gsRef s 5)) ∨ (¬ (gsT0 s).2.1 = 0 ∧ ¬ (gsT1 s).2.1 = 0 ∧ K (gb (fitV (gsT0 s) (gsT1 s))) s)
def whyV (v w : MixV) : Int32 := match fst4 (adn v.2.2.1 w.2.2.2).testBit with
  | some k => nI k
  | none => match fst4 (adn w.2.2.1 v.2.2.2).testBit with
    | some k => nI 10 + nI k
    | none => -9
def rWhy : Prop := (((gsT0 s).2.1 = 0 ∨ (gsT1 s).2.1 = 0) ∧ K (-9) s) ∨ (¬ (gsT0 s).2.1 = 0 ∧ ¬ (gsT1 s).2.1 = 0 ∧ K (whyV (gsT0 s) (gsT1 s)) s)
def rAns1 (v : MixV) : Prop := (v.2.1 = 0 ∧ K (-5) (gsRef s 5)) ∨ (¬ v.2.1 = 0 ∧ K (nI v.2.2.2) s)
def rAnswers (q : Int32) : Prop := (isW q = false ∧ K (-1) (gsRef s 1)) ∨ (q = nI 0 ∧ rAns1 s K (gsT1 s)) ∨ (q = nI 1 ∧ rAns1 s K (gsT0 s))
def rMean (q f : Int32) : Prop := (isW q = false ∧ L (4000000000000000000 - (-1 : Int32).toInt64) (gsRef s 1)) ∨ (isW q = true ∧ (f < nI 0 ∨ nI 1 < f) ∧ L (4000000000000000000 - (-2 : Int32).toInt64) (gsRef s 2)) ∨ (¬ f < nI 0 ∧ ¬ nI 1 < f ∧ isW q = true ∧ ((gsT0 s).2.1 = 0 ∨ (gsT1 s).2.1 = 0) ∧ L (4000000000000000000 - (-5 : Int32).toInt64) (gsRef s 5)) ∨ (¬ f < nI 0 ∧ ¬ nI 1 < f ∧ ¬ (gsT0 s).2.1 = 0 ∧ ¬ (gsT1 s).2.1 = 0 ∧ ((q = nI 0 ∧ L (mnV (gsP0 s) (gsm s) (gsT0 s) (gsT1 s) f) s) ∨ (q = nI 1 ∧ L (mnV (gsP1 s) (gsn s) (gsT1 s) (gsT0 s) f) s)))
/-- the number of a mix among corners -/
def nbr (c : CL) (v : MixV) : Option Nat := fstN (fun j => decide (ordV (c.2 j) v = 0)) c.1
def findV (s : GS) : Int32 := match nbr (gsCr s) (gsT0 s), nbr (gsCd s) (gsT1 s) with
  | some a, some e => if fitV (gsT0 s) (gsT1 s) = true then nI (bpos (gsCr s) (gsCd s) a e) else -9
  | _, _ => -9
def rFind : Prop := (((gsT0 s).2.1 = 0 ∨ (gsT1 s).2.1 = 0) ∧ K (-5) (gsRef s 5)) ∨ (¬ (gsT0 s).2.1 = 0 ∧ ¬ (gsT1 s).2.1 = 0 ∧ K (findV s) s)
end REL4
set_option maxHeartbeats 4000000 in
set_option maxRecDepth 100000 in
theorem c_X4_trayOf_0 (l : Launch) {G : gG} {T : gTy} {I : gI} {J : gJ} {Q : gR} {O : gO} {H : Heap} (hP : gP G T I J Q O H) {g r d mr md : Nat} {ck : Bool} {cr cd : CL} {Sr Sd : Nat → Prop} (hg : isGT T J Q O g r d mr md ck cr cd Sr Sd) : Met l yX4_trayOf (gw yX4_trayOf cX4_trayOf 2 (some (.object "GameTables$Mix"))) ({ frames := 4, cells := 0, slots := 0, locals := 96 } : Room) (gPc G H [.ref g, .int (nI 0)]) (gQc (gF T H) (trayG G T I J Q O r d mr md)) 0 0 (gF T H) := by
  refine g_met [(0, .ref g), (1, .int (nI 0))] (by decide) rfl (by exact Nat.le_of_ble_eq_true rfl) ?_
  intro p e s m below meth c hC hs ls hl
  have hx := hC.1.1
  have hb := hC.1.2.1
  have hS : va_S (gF T H) s.heap H [] := hs ▸ va_S.rf
  have hTA : ∀ q, (T q).1 ≠ 0 → gF T H q := fun q h => Or.inl h
  have hA : ∀ q, s.heap.size ≤ q → gF T H q := fun q h => Or.inr (hs ▸ h)
  generalize hAe : gF T H = A at hS hTA hA ⊢
  have hg_lo8 := hg.2.2.2.2.2.2.2.2.1.2.2.2.2.2.2.2.2.1
  have hg_hi8 := hg.2.2.2.2.2.2.2.2.1.2.2.2.2.2.2.2.2.2
  have hg_lo9 := hg.2.2.2.2.2.2.2.2.2.1.2.2.2.2.2.2.2.2.1
  have hg_hi9 := hg.2.2.2.2.2.2.2.2.2.1.2.2.2.2.2.2.2.2.2
  have hg_ad := hg.2.2.2.2.2.2.2.2.2.2.2.2.2.2.2.2.1
  refine lv_aload_n hx hb dX4_trayOf_0 rfl (lv_at hl 0 rfl) ?_
  refine lv_iload_n hx hb dX4_trayOf_1 rfl (lv_at hl 1 rfl) ?_
  refine g_cp (g_rV (As := [.int (nI 0)]) hC hP (c_X4_player l hP (g := g) (w := 0) (by first | assumption | omega) (by first | assumption | omega)) hg.1 rfl ⟨q1_166, q1_163, q1_165, qs_3, q1_1⟩ dd_X4_player ⟨Nat.le_of_ble_eq_true rfl, Nat.le_of_ble_eq_true rfl, rfl, rfl⟩ hl.1 rfl (Nat.le_of_ble_eq_true rfl) dX4_trayOf_2 ⟨Nat.le_of_ble_eq_true rfl, Nat.le_of_ble_eq_true rfl⟩) ?_
  refine W.eq (g2 := F0 m 5 ls [.ref r]) rfl ?_
  refine lv_aload_n hx hb dX4_trayOf_5 rfl (lv_at hl 0 rfl) ?_
  refine lv_iconst (v := nI 1) hx hb dX4_trayOf_6 (by decide) ?_
  refine lv_iload_n hx hb dX4_trayOf_7 rfl (lv_at hl 1 rfl) ?_
  refine lv_isub hx hb dX4_trayOf_8 ?_
  refine g_topi (y := nI 1) (by decide) ?_
  refine g_cp (g_rV (As := [.int (nI 1)]) hC hP (c_X4_player l hP (g := g) (w := 1) (by first | assumption | omega) (by first | assumption | omega)) hg.1 rfl ⟨q1_166, q1_163, q1_165, qs_3, q1_1⟩ dd_X4_player ⟨Nat.le_of_ble_eq_true rfl, Nat.le_of_ble_eq_true rfl, rfl, rfl⟩ hl.1 rfl (Nat.le_of_ble_eq_true rfl) dX4_trayOf_9 ⟨Nat.le_of_ble_eq_true rfl, Nat.le_of_ble_eq_true rfl⟩) ?_
  refine W.eq (g2 := F0 m 12 ls [.ref d, .ref r]) rfl ?_
  refine g_cc (g_rV (As := [.ref d]) hC hP (c_X3_trayMix l hP (b := r) (ch := mr) (d := d) (dh := md) hg.2.2.2.2.2.2.2.2.1 hg.2.2.2.2.2.2.2.2.2.1 hg.2.2.2.2.2.2.2.2.2.2.1) hg.2.2.2.2.2.2.2.2.1.1 rfl ⟨q1_203, q1_200, q1_201, q1_202, q1_2⟩ dd_X3_trayMix ⟨Nat.le_of_ble_eq_true rfl, Nat.le_of_ble_eq_true rfl, rfl, rfl⟩ hl.1 rfl (Nat.le_of_ble_eq_true rfl) dX4_trayOf_12 ⟨Nat.le_of_ble_eq_true rfl, Nat.le_of_ble_eq_true rfl⟩) hS (fun q h => h.elim (hTA q) (fun z => hA q (Nat.le_trans hS.1 z))) (fun r5 H1 locs2 hq6 hS hz3 hfr4 => ?_)
  have hqq := hq6
  replace hqq := trayG_of hqq
  obtain ⟨J7, O8, hP, hj, ho, ho0, hh⟩ := hqq
  rcases hh with ⟨ht0, rfl⟩ | ⟨ht0, rfl, hmi⟩
  · refine W.eq (g2 := F0 m 15 ls [.null]) rfl ?_
    refine g_retca hC hS (Or.inl rfl) ?_ dX4_trayOf_15
    exact ⟨J7, O8, hP, hj, ho, ho0, Or.inl ⟨ht0, rfl⟩⟩
  · refine W.eq (g2 := F0 m 15 ls [.ref (r + 11)]) rfl ?_
    refine g_retca hC hS (Or.inr ⟨_, rfl⟩) ?_ dX4_trayOf_15
    exact ⟨J7, O8, hP, hj, ho, ho0, Or.inr ⟨ht0, rfl, hmi⟩⟩
set_option maxHeartbeats 4000000 in
set_option maxRecDepth 100000 in
theorem c_X4_trayOf_1 (l : Launch) {G : gG} {T : gTy} {I : gI} {J : gJ} {Q : gR} {O : gO} {H : Heap} (hP : gP G T I J Q O H) {g r d mr md : Nat} {ck : Bool} {cr cd : CL} {Sr Sd : Nat → Prop} (hg : isGT T J Q O g r d mr md ck cr cd Sr Sd) : Met l yX4_trayOf (gw yX4_trayOf cX4_trayOf 2 (some (.object "GameTables$Mix"))) ({ frames := 4, cells := 0, slots := 0, locals := 96 } : Room) (gPc G H [.ref g, .int (nI 1)]) (gQc (gF T H) (trayG G T I J Q O d r md mr)) 0 0 (gF T H) := by
  refine g_met [(0, .ref g), (1, .int (nI 1))] (by decide) rfl (by exact Nat.le_of_ble_eq_true rfl) ?_
  intro p e s m below meth c hC hs ls hl
  have hx := hC.1.1
  have hb := hC.1.2.1
  have hS : va_S (gF T H) s.heap H [] := hs ▸ va_S.rf
  have hTA : ∀ q, (T q).1 ≠ 0 → gF T H q := fun q h => Or.inl h
  have hA : ∀ q, s.heap.size ≤ q → gF T H q := fun q h => Or.inr (hs ▸ h)
  generalize hAe : gF T H = A at hS hTA hA ⊢
  have hg_lo8 := hg.2.2.2.2.2.2.2.2.1.2.2.2.2.2.2.2.2.1
  have hg_hi8 := hg.2.2.2.2.2.2.2.2.1.2.2.2.2.2.2.2.2.2
  have hg_lo9 := hg.2.2.2.2.2.2.2.2.2.1.2.2.2.2.2.2.2.2.1
  have hg_hi9 := hg.2.2.2.2.2.2.2.2.2.1.2.2.2.2.2.2.2.2.2
  have hg_ad := hg.2.2.2.2.2.2.2.2.2.2.2.2.2.2.2.2.1
  refine lv_aload_n hx hb dX4_trayOf_0 rfl (lv_at hl 0 rfl) ?_
  refine lv_iload_n hx hb dX4_trayOf_1 rfl (lv_at hl 1 rfl) ?_
  refine g_cp (g_rV (As := [.int (nI 1)]) hC hP (c_X4_player l hP (g := g) (w := 1) (by first | assumption | omega) (by first | assumption | omega)) hg.1 rfl ⟨q1_166, q1_163, q1_165, qs_3, q1_1⟩ dd_X4_player ⟨Nat.le_of_ble_eq_true rfl, Nat.le_of_ble_eq_true rfl, rfl, rfl⟩ hl.1 rfl (Nat.le_of_ble_eq_true rfl) dX4_trayOf_2 ⟨Nat.le_of_ble_eq_true rfl, Nat.le_of_ble_eq_true rfl⟩) ?_
  refine W.eq (g2 := F0 m 5 ls [.ref d]) rfl ?_
  refine lv_aload_n hx hb dX4_trayOf_5 rfl (lv_at hl 0 rfl) ?_
  refine lv_iconst (v := nI 1) hx hb dX4_trayOf_6 (by decide) ?_
  refine lv_iload_n hx hb dX4_trayOf_7 rfl (lv_at hl 1 rfl) ?_
  refine lv_isub hx hb dX4_trayOf_8 ?_
  refine g_topi (y := nI 0) (by decide) ?_
  refine g_cp (g_rV (As := [.int (nI 0)]) hC hP (c_X4_player l hP (g := g) (w := 0) (by first | assumption | omega) (by first | assumption | omega)) hg.1 rfl ⟨q1_166, q1_163, q1_165, qs_3, q1_1⟩ dd_X4_player ⟨Nat.le_of_ble_eq_true rfl, Nat.le_of_ble_eq_true rfl, rfl, rfl⟩ hl.1 rfl (Nat.le_of_ble_eq_true rfl) dX4_trayOf_9 ⟨Nat.le_of_ble_eq_true rfl, Nat.le_of_ble_eq_true rfl⟩) ?_
  refine W.eq (g2 := F0 m 12 ls [.ref r, .ref d]) rfl ?_
  refine g_cc (g_rV (As := [.ref r]) hC hP (c_X3_trayMix l hP (b := d) (ch := md) (d := r) (dh := mr) hg.2.2.2.2.2.2.2.2.2.1 hg.2.2.2.2.2.2.2.2.1 hg.2.2.2.2.2.2.2.2.2.2.2.1) hg.2.2.2.2.2.2.2.2.2.1.1 rfl ⟨q1_203, q1_200, q1_201, q1_202, q1_2⟩ dd_X3_trayMix ⟨Nat.le_of_ble_eq_true rfl, Nat.le_of_ble_eq_true rfl, rfl, rfl⟩ hl.1 rfl (Nat.le_of_ble_eq_true rfl) dX4_trayOf_12 ⟨Nat.le_of_ble_eq_true rfl, Nat.le_of_ble_eq_true rfl⟩) hS (fun q h => h.elim (hTA q) (fun z => hA q (Nat.le_trans hS.1 z))) (fun r5 H1 locs2 hq6 hS hz3 hfr4 => ?_)
  have hqq := hq6
  replace hqq := trayG_of hqq
  obtain ⟨J7, O8, hP, hj, ho, ho0, hh⟩ := hqq
  rcases hh with ⟨ht0, rfl⟩ | ⟨ht0, rfl, hmi⟩
  · refine W.eq (g2 := F0 m 15 ls [.null]) rfl ?_
    refine g_retca hC hS (Or.inl rfl) ?_ dX4_trayOf_15
    exact ⟨J7, O8, hP, hj, ho, ho0, Or.inl ⟨ht0, rfl⟩⟩
  · refine W.eq (g2 := F0 m 15 ls [.ref (d + 11)]) rfl ?_
    refine g_retca hC hS (Or.inr ⟨_, rfl⟩) ?_ dX4_trayOf_15
    exact ⟨J7, O8, hP, hj, ho, ho0, Or.inr ⟨ht0, rfl, hmi⟩⟩
set_option maxHeartbeats 4000000 in
set_option maxRecDepth 100000 in
theorem c_X4_is (l : Launch) {G : gG} {T : gTy} {I : gI} {J : gJ} {Q : gR} {O : gO} {H : Heap} (hP : gP G T I J Q O H) {g r d mr md : Nat} {ck : Bool} {cr cd : CL} {Sr Sd : Nat → Prop}  (hg : isGT T J Q O g r d mr md ck cr cd Sr Sd) (hck : ckOK ck cr cd mr md (I (r + 9)) (I (d + 9))) : Met l yX4_is (gw yX4_is cX4_is 3 (some (.int))) ({ frames := 5, cells := 0, slots := 0, locals := 117 } : Room) (gPc G H [.ref g]) (gQc (gF T H) (fun x H1 => rIs (gsI I g r d mr md) (fun x1 s1 => x = some (.int x1) ∧ gtG G T H.size g s1 H1) )) 0 0 (gF T H) := by
  refine g_met [(0, .ref g)] (by decide) rfl (by exact Nat.le_of_ble_eq_true rfl) ?_
  intro p e s m below meth c hC hs ls hl
  have hx := hC.1.1
  have hb := hC.1.2.1
  have hS : va_S (gF T H) s.heap H [] := hs ▸ va_S.rf
  have hTA : ∀ q, (T q).1 ≠ 0 → gF T H q := fun q h => Or.inl h
  have hA : ∀ q, s.heap.size ≤ q → gF T H q := fun q h => Or.inr (hs ▸ h)
  generalize hAe : gF T H = A at hS hTA hA ⊢
  have hg_lo8 := hg.2.2.2.2.2.2.2.2.1.2.2.2.2.2.2.2.2.1
  have hg_hi8 := hg.2.2.2.2.2.2.2.2.1.2.2.2.2.2.2.2.2.2
  have hg_lo9 := hg.2.2.2.2.2.2.2.2.2.1.2.2.2.2.2.2.2.2.1
  have hg_hi9 := hg.2.2.2.2.2.2.2.2.2.1.2.2.2.2.2.2.2.2.2
  have hg_ad := hg.2.2.2.2.2.2.2.2.2.2.2.2.2.2.2.2.1
  obtain ⟨t0, et0⟩ : ∃ x : MixV, x = gsT0 (gsI I g r d mr md) := ⟨_, rfl⟩
  obtain ⟨t1, et1⟩ : ∃ x : MixV, x = gsT1 (gsI I g r d mr md) := ⟨_, rfl⟩
  have ok0 : vOK t0 := et0 ▸ twV_ok hg_hi9
  have ok1 : vOK t1 := et1 ▸ twV_ok hg_hi8
  have ok0a := ok0.1
  have ok0b := ok0.2
  have ok1a := ok1.1
  have ok1b := ok1.2
  refine lv_aload_n hx hb dX4_is_0 rfl (lv_at hl 0 rfl) ?_
  refine lv_iconst (v := nI 0) hx hb dX4_is_1 (by decide) ?_
  refine g_cc (g_rV (As := [.int (nI 0)]) hC hP (c_X4_trayOf_0 l hP (g := g) (by first | assumption | omega)) hg.1 rfl ⟨q1_199, q1_196, q1_198, qs_5, q1_1⟩ dd_X4_trayOf ⟨Nat.le_of_ble_eq_true rfl, Nat.le_of_ble_eq_true rfl, rfl, rfl⟩ hl.1 rfl (Nat.le_of_ble_eq_true rfl) dX4_is_2 ⟨Nat.le_of_ble_eq_true rfl, Nat.le_of_ble_eq_true rfl⟩) hS (fun q h => h.elim (hTA q) (fun z => hA q (Nat.le_trans hS.1 z))) (fun r5 H1 locs2 hq6 hS hz3 hfr4 => ?_)
  obtain ⟨J7, O8, hP, hj0, ho0, hoz0, hh⟩ := hq6
  have hgt0 := isGT_tray hg (Or.inl rfl) hj0 ho0 hoz0
  rw [show twV (I (d + 9)) (I (r + 10)) mr md = t0 from et0.symm] at hh
  rcases hh with ⟨ht0, rfl⟩ | ⟨ht0, rfl, hmi0⟩
  · refine W.eq (g2 := F0 m 5 ls [.null]) rfl ?_
    refine lv_astore_nN (lv' := [(1, .null), (0, .ref g)]) hx hb dX4_is_5 rfl hl (by decide) rfl (fun ls hl => ?_)
    refine lv_aload_n hx hb dX4_is_6 rfl (lv_at hl 1 rfl) ?_
    refine lv_iconst (v := nI 1) hx hb dX4_is_7 (by decide) ?_
    refine g_cc (g_rV (As := [.int (nI 1)]) hC hP (c_X4_trayOf_1 l hP (g := g) (by first | assumption | omega)) hgt0.1 rfl ⟨q1_199, q1_196, q1_198, qs_5, q1_1⟩ dd_X4_trayOf ⟨Nat.le_of_ble_eq_true rfl, Nat.le_of_ble_eq_true rfl, rfl, rfl⟩ hl.1 rfl (Nat.le_of_ble_eq_true rfl) dX4_is_8 ⟨Nat.le_of_ble_eq_true rfl, Nat.le_of_ble_eq_true rfl⟩) hS (fun q h => h.elim (hTA q) (fun z => hA q (Nat.le_trans hS.1 z))) (fun r13 H9 locs10 hq14 hS hz11 hfr12 => ?_)
    obtain ⟨J15, O16, hP, hj1, ho1, hoz1, hh⟩ := hq14
    have hgt1 := isGT_tray hgt0 (Or.inr rfl) hj1 ho1 hoz1
    rw [show twV (I (r + 9)) (I (d + 10)) md mr = t1 from et1.symm] at hh
    rcases hh with ⟨ht1, rfl⟩ | ⟨ht1, rfl, hmi1⟩
    · refine W.eq (g2 := F0 m 11 ls [.null]) rfl ?_
      refine lv_astore_nN (lv' := [(2, .null), (1, .null), (0, .ref g)]) hx hb dX4_is_11 rfl hl (by decide) rfl (fun ls hl => ?_)
      refine lv_aload_nN hx hb dX4_is_12 rfl (lv_at hl 1 rfl) ?_
      refine lv_ifnullN (tgt := 20) hx hb dX4_is_13 (by decide) ?_
      refine lv_aload_n hx hb dX4_is_20 rfl (lv_at hl 2 rfl) ?_
      refine lv_bipush (v := (-5)) hx hb dX4_is_21 (by decide) ?_
      refine g_cc (g_rV (As := [.int (-5 : Int32)]) hC hP (c_X4_refuse l hP (g := g) (q := (-5 : Int32)) (j := 5) (by first | assumption | omega) (by decide) (by omega)) hgt1.1 rfl ⟨q1_138, q1_135, q1_137, qs_0, q1_1⟩ dd_X4_refuse ⟨Nat.le_of_ble_eq_true rfl, Nat.le_of_ble_eq_true rfl, rfl, rfl⟩ hl.1 rfl (Nat.le_of_ble_eq_true rfl) dX4_is_23 ⟨Nat.le_of_ble_eq_true rfl, Nat.le_of_ble_eq_true rfl⟩) hS (fun q h => h.elim (hTA q) (fun z => hA q (Nat.le_trans hS.1 z))) (fun r21 H17 locs18 hq22 hS hz19 hfr20 => ?_)
      obtain ⟨rfl, hP⟩ := hq22
      obtain ⟨I23, hI23, hP⟩ : ∃ I23 : gI, I23 = au I (g + 28) 5 (I (g + 28) 5 + 1) ∧ gP G T I23 J15 Q O16 H17 := ⟨_, rfl, hP⟩
      refine W.eq (g2 := F0 m 26 ls [.int (-5 : Int32)]) rfl ?_
      refine g_retci hC hS ?_ dX4_is_26
      exact Or.inl ⟨(by rw [← et0, ← et1]; exact Or.inl ht0), rfl, gt_ref hgt1 hck hI23 hP⟩
    · refine W.eq (g2 := F0 m 11 ls [.ref (d + 11)]) rfl ?_
      refine lv_astore_n (lv' := [(2, .ref (d + 11)), (1, .null), (0, .ref g)]) hx hb dX4_is_11 rfl hl (by decide) rfl (fun ls hl => ?_)
      refine lv_aload_nN hx hb dX4_is_12 rfl (lv_at hl 1 rfl) ?_
      refine lv_ifnullN (tgt := 20) hx hb dX4_is_13 (by decide) ?_
      refine lv_aload_n hx hb dX4_is_20 rfl (lv_at hl 2 rfl) ?_
      refine lv_bipush (v := (-5)) hx hb dX4_is_21 (by decide) ?_
      refine g_cc (g_rV (As := [.int (-5 : Int32)]) hC hP (c_X4_refuse l hP (g := g) (q := (-5 : Int32)) (j := 5) (by first | assumption | omega) (by decide) (by omega)) hgt1.1 rfl ⟨q1_138, q1_135, q1_137, qs_0, q1_1⟩ dd_X4_refuse ⟨Nat.le_of_ble_eq_true rfl, Nat.le_of_ble_eq_true rfl, rfl, rfl⟩ hl.1 rfl (Nat.le_of_ble_eq_true rfl) dX4_is_23 ⟨Nat.le_of_ble_eq_true rfl, Nat.le_of_ble_eq_true rfl⟩) hS (fun q h => h.elim (hTA q) (fun z => hA q (Nat.le_trans hS.1 z))) (fun r28 H24 locs25 hq29 hS hz26 hfr27 => ?_)
      obtain ⟨rfl, hP⟩ := hq29
      obtain ⟨I30, hI30, hP⟩ : ∃ I30 : gI, I30 = au I (g + 28) 5 (I (g + 28) 5 + 1) ∧ gP G T I30 J15 Q O16 H24 := ⟨_, rfl, hP⟩
      refine W.eq (g2 := F0 m 26 ls [.int (-5 : Int32)]) rfl ?_
      refine g_retci hC hS ?_ dX4_is_26
      exact Or.inl ⟨(by rw [← et0, ← et1]; exact Or.inl ht0), rfl, gt_ref hgt1 hck hI30 hP⟩
  · refine W.eq (g2 := F0 m 5 ls [.ref (r + 11)]) rfl ?_
    refine lv_astore_n (lv' := [(1, .ref (r + 11)), (0, .ref g)]) hx hb dX4_is_5 rfl hl (by decide) rfl (fun ls hl => ?_)
    refine lv_aload_n hx hb dX4_is_6 rfl (lv_at hl 1 rfl) ?_
    refine lv_iconst (v := nI 1) hx hb dX4_is_7 (by decide) ?_
    refine g_cc (g_rV (As := [.int (nI 1)]) hC hP (c_X4_trayOf_1 l hP (g := g) (by first | assumption | omega)) hgt0.1 rfl ⟨q1_199, q1_196, q1_198, qs_5, q1_1⟩ dd_X4_trayOf ⟨Nat.le_of_ble_eq_true rfl, Nat.le_of_ble_eq_true rfl, rfl, rfl⟩ hl.1 rfl (Nat.le_of_ble_eq_true rfl) dX4_is_8 ⟨Nat.le_of_ble_eq_true rfl, Nat.le_of_ble_eq_true rfl⟩) hS (fun q h => h.elim (hTA q) (fun z => hA q (Nat.le_trans hS.1 z))) (fun r35 H31 locs32 hq36 hS hz33 hfr34 => ?_)
    obtain ⟨J37, O38, hP, hj1, ho1, hoz1, hh⟩ := hq36
    have hgt1 := isGT_tray hgt0 (Or.inr rfl) hj1 ho1 hoz1
    rw [show twV (I (r + 9)) (I (d + 10)) md mr = t1 from et1.symm] at hh
    replace hmi0 := mixIs_keep hmi0 (by omega) hj1 ho1
    rcases hh with ⟨ht1, rfl⟩ | ⟨ht1, rfl, hmi1⟩
    · refine W.eq (g2 := F0 m 11 ls [.null]) rfl ?_
      refine lv_astore_nN (lv' := [(2, .null), (1, .ref (r + 11)), (0, .ref g)]) hx hb dX4_is_11 rfl hl (by decide) rfl (fun ls hl => ?_)
      refine lv_aload_n hx hb dX4_is_12 rfl (lv_at hl 1 rfl) ?_
      refine lv_ifnull hx hb dX4_is_13 ?_
      refine lv_aload_nN hx hb dX4_is_16 rfl (lv_at hl 0 rfl) ?_
      refine lv_ifnonnullN hx hb dX4_is_17 ?_
      refine lv_aload_n hx hb dX4_is_20 rfl (lv_at hl 2 rfl) ?_
      refine lv_bipush (v := (-5)) hx hb dX4_is_21 (by decide) ?_
      refine g_cc (g_rV (As := [.int (-5 : Int32)]) hC hP (c_X4_refuse l hP (g := g) (q := (-5 : Int32)) (j := 5) (by first | assumption | omega) (by decide) (by omega)) hgt1.1 rfl ⟨q1_138, q1_135, q1_137, qs_0, q1_1⟩ dd_X4_refuse ⟨Nat.le_of_ble_eq_true rfl, Nat.le_of_ble_eq_true rfl, rfl, rfl⟩ hl.1 rfl (Nat.le_of_ble_eq_true rfl) dX4_is_23 ⟨Nat.le_of_ble_eq_true rfl, Nat.le_of_ble_eq_true rfl⟩) hS (fun q h => h.elim (hTA q) (fun z => hA q (Nat.le_trans hS.1 z))) (fun r43 H39 locs40 hq44 hS hz41 hfr42 => ?_)
      obtain ⟨rfl, hP⟩ := hq44
      obtain ⟨I45, hI45, hP⟩ : ∃ I45 : gI, I45 = au I (g + 28) 5 (I (g + 28) 5 + 1) ∧ gP G T I45 J37 Q O38 H39 := ⟨_, rfl, hP⟩
      refine W.eq (g2 := F0 m 26 ls [.int (-5 : Int32)]) rfl ?_
      refine g_retci hC hS ?_ dX4_is_26
      exact Or.inl ⟨(by rw [← et0, ← et1]; exact Or.inr ht1), rfl, gt_ref hgt1 hck hI45 hP⟩
    · refine W.eq (g2 := F0 m 11 ls [.ref (d + 11)]) rfl ?_
      refine lv_astore_n (lv' := [(2, .ref (d + 11)), (1, .ref (r + 11)), (0, .ref g)]) hx hb dX4_is_11 rfl hl (by decide) rfl (fun ls hl => ?_)
      refine lv_aload_n hx hb dX4_is_12 rfl (lv_at hl 1 rfl) ?_
      refine lv_ifnull hx hb dX4_is_13 ?_
      refine lv_aload_n hx hb dX4_is_16 rfl (lv_at hl 0 rfl) ?_
      refine lv_ifnonnull (tgt := 27) hx hb dX4_is_17 (by decide) ?_
      refine lv_aload_n hx hb dX4_is_27 rfl (lv_at hl 1 rfl) ?_
      refine lv_aload_n hx hb dX4_is_28 rfl (lv_at hl 0 rfl) ?_
      refine g_cp (g_rV (As := [.ref (d + 11)]) hC hP (c_X2_fits l hP (x := r + 11) (y := d + 11) (u := t0.2.2.1) (n := t0.2.2.2) (u2 := t1.2.2.1) (n2 := t1.2.2.2) (t := t0.2.1) (t2 := t1.2.1) hgt1.2.2.2.2.2.2.2.2.2.2.1 hmi0.2 hgt1.2.2.2.2.2.2.2.2.2.2.2.1 hmi1.2 ok0a ok0b ok1a ok1b) hgt1.2.2.2.2.2.2.2.2.2.2.1.1 rfl ⟨q2_1, q1_238, q1_239, q2_0, q1_4⟩ dd_X2_fits ⟨Nat.le_of_ble_eq_true rfl, Nat.le_of_ble_eq_true rfl, rfl, rfl⟩ hl.1 rfl (Nat.le_of_ble_eq_true rfl) dX4_is_29 ⟨Nat.le_of_ble_eq_true rfl, Nat.le_of_ble_eq_true rfl⟩) ?_
      refine W.eq (g2 := F0 m 32 ls [.int (gb (fitB t0.2.2.1 t0.2.2.2 t1.2.2.1 t1.2.2.2))]) rfl ?_
      refine lv_if_eq (tgt := 39) hx hb dX4_is_32 (by decide) (fun c32 => ?_) (fun c32 => ?_)
      · have c32 := gb_f c32
        refine lv_iconst (v := nI 0) hx hb dX4_is_39 (by decide) ?_
        refine g_retci hC hS ?_ dX4_is_40
        refine Or.inr ⟨et0 ▸ ht0, et1 ▸ ht1, ?_, gt_same hgt1 hck hP⟩
        rw [← et0, ← et1]
        unfold fitV
        rw [c32]
        rfl
      · have c32 := gb_t c32
        refine lv_iconst (v := nI 1) hx hb dX4_is_35 (by decide) ?_
        refine lv_goto (tgt := 40) hx hb dX4_is_36 (by decide) ?_
        refine g_retci hC hS ?_ dX4_is_40
        refine Or.inr ⟨et0 ▸ ht0, et1 ▸ ht1, ?_, gt_same hgt1 hck hP⟩
        rw [← et0, ← et1]
        unfold fitV
        rw [c32]
        rfl
set_option maxHeartbeats 4000000 in
set_option maxRecDepth 100000 in
theorem c_X4_why (l : Launch) {G : gG} {T : gTy} {I : gI} {J : gJ} {Q : gR} {O : gO} {H : Heap} (hP : gP G T I J Q O H) {g r d mr md : Nat} {ck : Bool} {cr cd : CL} {Sr Sd : Nat → Prop}  (hg : isGT T J Q O g r d mr md ck cr cd Sr Sd) (hck : ckOK ck cr cd mr md (I (r + 9)) (I (d + 9))) : Met l yX4_why (gw yX4_why cX4_why 5 (some (.int))) ({ frames := 5, cells := 0, slots := 0, locals := 117 } : Room) (gPc G H [.ref g]) (gQc (gF T H) (fun x H1 => rWhy (gsI I g r d mr md) (fun x1 s1 => x = some (.int x1) ∧ gtG G T H.size g s1 H1) )) 0 0 (gF T H) := by
  refine g_met [(0, .ref g)] (by decide) rfl (by exact Nat.le_of_ble_eq_true rfl) ?_
  intro p e s m below meth c hC hs ls hl
  have hx := hC.1.1
  have hb := hC.1.2.1
  have hS : va_S (gF T H) s.heap H [] := hs ▸ va_S.rf
  have hTA : ∀ q, (T q).1 ≠ 0 → gF T H q := fun q h => Or.inl h
  have hA : ∀ q, s.heap.size ≤ q → gF T H q := fun q h => Or.inr (hs ▸ h)
  generalize hAe : gF T H = A at hS hTA hA ⊢
  have hg_lo8 := hg.2.2.2.2.2.2.2.2.1.2.2.2.2.2.2.2.2.1
  have hg_hi8 := hg.2.2.2.2.2.2.2.2.1.2.2.2.2.2.2.2.2.2
  have hg_lo9 := hg.2.2.2.2.2.2.2.2.2.1.2.2.2.2.2.2.2.2.1
  have hg_hi9 := hg.2.2.2.2.2.2.2.2.2.1.2.2.2.2.2.2.2.2.2
  have hg_ad := hg.2.2.2.2.2.2.2.2.2.2.2.2.2.2.2.2.1
  obtain ⟨t0, et0⟩ : ∃ x : MixV, x = gsT0 (gsI I g r d mr md) := ⟨_, rfl⟩
  obtain ⟨t1, et1⟩ : ∃ x : MixV, x = gsT1 (gsI I g r d mr md) := ⟨_, rfl⟩
  have ok0 : vOK t0 := et0 ▸ twV_ok hg_hi9
  have ok1 : vOK t1 := et1 ▸ twV_ok hg_hi8
  have ok0a := ok0.1
  have ok0b := ok0.2
  have ok1a := ok1.1
  have ok1b := ok1.2
  refine lv_aload_n hx hb dX4_why_0 rfl (lv_at hl 0 rfl) ?_
  refine lv_iconst (v := nI 0) hx hb dX4_why_1 (by decide) ?_
  refine g_cc (g_rV (As := [.int (nI 0)]) hC hP (c_X4_trayOf_0 l hP (g := g) (by first | assumption | omega)) hg.1 rfl ⟨q1_199, q1_196, q1_198, qs_5, q1_1⟩ dd_X4_trayOf ⟨Nat.le_of_ble_eq_true rfl, Nat.le_of_ble_eq_true rfl, rfl, rfl⟩ hl.1 rfl (Nat.le_of_ble_eq_true rfl) dX4_why_2 ⟨Nat.le_of_ble_eq_true rfl, Nat.le_of_ble_eq_true rfl⟩) hS (fun q h => h.elim (hTA q) (fun z => hA q (Nat.le_trans hS.1 z))) (fun r5 H1 locs2 hq6 hS hz3 hfr4 => ?_)
  obtain ⟨J7, O8, hP, hj0, ho0, hoz0, hh⟩ := hq6
  have hgt0 := isGT_tray hg (Or.inl rfl) hj0 ho0 hoz0
  rw [show twV (I (d + 9)) (I (r + 10)) mr md = t0 from et0.symm] at hh
  rcases hh with ⟨ht0, rfl⟩ | ⟨ht0, rfl, hmi0⟩
  · refine W.eq (g2 := F0 m 5 ls [.null]) rfl ?_
    refine lv_astore_nN (lv' := [(1, .null), (0, .ref g)]) hx hb dX4_why_5 rfl hl (by decide) rfl (fun ls hl => ?_)
    refine lv_aload_n hx hb dX4_why_6 rfl (lv_at hl 1 rfl) ?_
    refine lv_iconst (v := nI 1) hx hb dX4_why_7 (by decide) ?_
    refine g_cc (g_rV (As := [.int (nI 1)]) hC hP (c_X4_trayOf_1 l hP (g := g) (by first | assumption | omega)) hgt0.1 rfl ⟨q1_199, q1_196, q1_198, qs_5, q1_1⟩ dd_X4_trayOf ⟨Nat.le_of_ble_eq_true rfl, Nat.le_of_ble_eq_true rfl, rfl, rfl⟩ hl.1 rfl (Nat.le_of_ble_eq_true rfl) dX4_why_8 ⟨Nat.le_of_ble_eq_true rfl, Nat.le_of_ble_eq_true rfl⟩) hS (fun q h => h.elim (hTA q) (fun z => hA q (Nat.le_trans hS.1 z))) (fun r13 H9 locs10 hq14 hS hz11 hfr12 => ?_)
    obtain ⟨J15, O16, hP, hj1, ho1, hoz1, hh⟩ := hq14
    have hgt1 := isGT_tray hgt0 (Or.inr rfl) hj1 ho1 hoz1
    rw [show twV (I (r + 9)) (I (d + 10)) md mr = t1 from et1.symm] at hh
    rcases hh with ⟨ht1, rfl⟩ | ⟨ht1, rfl, hmi1⟩
    · refine W.eq (g2 := F0 m 11 ls [.null]) rfl ?_
      refine lv_astore_nN (lv' := [(2, .null), (1, .null), (0, .ref g)]) hx hb dX4_why_11 rfl hl (by decide) rfl (fun ls hl => ?_)
      refine lv_aload_nN hx hb dX4_why_12 rfl (lv_at hl 1 rfl) ?_
      refine lv_ifnullN (tgt := 20) hx hb dX4_why_13 (by decide) ?_
      refine lv_bipush (v := (-9)) hx hb dX4_why_20 (by decide) ?_
      refine g_retci hC hS ?_ dX4_why_22
      exact Or.inl ⟨(by rw [← et0, ← et1]; exact Or.inl ht0), rfl, gt_same hgt1 hck hP⟩
    · refine W.eq (g2 := F0 m 11 ls [.ref (d + 11)]) rfl ?_
      refine lv_astore_n (lv' := [(2, .ref (d + 11)), (1, .null), (0, .ref g)]) hx hb dX4_why_11 rfl hl (by decide) rfl (fun ls hl => ?_)
      refine lv_aload_nN hx hb dX4_why_12 rfl (lv_at hl 1 rfl) ?_
      refine lv_ifnullN (tgt := 20) hx hb dX4_why_13 (by decide) ?_
      refine lv_bipush (v := (-9)) hx hb dX4_why_20 (by decide) ?_
      refine g_retci hC hS ?_ dX4_why_22
      exact Or.inl ⟨(by rw [← et0, ← et1]; exact Or.inl ht0), rfl, gt_same hgt1 hck hP⟩
  · refine W.eq (g2 := F0 m 5 ls [.ref (r + 11)]) rfl ?_
    refine lv_astore_n (lv' := [(1, .ref (r + 11)), (0, .ref g)]) hx hb dX4_why_5 rfl hl (by decide) rfl (fun ls hl => ?_)
    refine lv_aload_n hx hb dX4_why_6 rfl (lv_at hl 1 rfl) ?_
    refine lv_iconst (v := nI 1) hx hb dX4_why_7 (by decide) ?_
    refine g_cc (g_rV (As := [.int (nI 1)]) hC hP (c_X4_trayOf_1 l hP (g := g) (by first | assumption | omega)) hgt0.1 rfl ⟨q1_199, q1_196, q1_198, qs_5, q1_1⟩ dd_X4_trayOf ⟨Nat.le_of_ble_eq_true rfl, Nat.le_of_ble_eq_true rfl, rfl, rfl⟩ hl.1 rfl (Nat.le_of_ble_eq_true rfl) dX4_why_8 ⟨Nat.le_of_ble_eq_true rfl, Nat.le_of_ble_eq_true rfl⟩) hS (fun q h => h.elim (hTA q) (fun z => hA q (Nat.le_trans hS.1 z))) (fun r21 H17 locs18 hq22 hS hz19 hfr20 => ?_)
    obtain ⟨J23, O24, hP, hj1, ho1, hoz1, hh⟩ := hq22
    have hgt1 := isGT_tray hgt0 (Or.inr rfl) hj1 ho1 hoz1
    rw [show twV (I (r + 9)) (I (d + 10)) md mr = t1 from et1.symm] at hh
    replace hmi0 := mixIs_keep hmi0 (by omega) hj1 ho1
    rcases hh with ⟨ht1, rfl⟩ | ⟨ht1, rfl, hmi1⟩
    · refine W.eq (g2 := F0 m 11 ls [.null]) rfl ?_
      refine lv_astore_nN (lv' := [(2, .null), (1, .ref (r + 11)), (0, .ref g)]) hx hb dX4_why_11 rfl hl (by decide) rfl (fun ls hl => ?_)
      refine lv_aload_n hx hb dX4_why_12 rfl (lv_at hl 1 rfl) ?_
      refine lv_ifnull hx hb dX4_why_13 ?_
      refine lv_aload_nN hx hb dX4_why_16 rfl (lv_at hl 0 rfl) ?_
      refine lv_ifnonnullN hx hb dX4_why_17 ?_
      refine lv_bipush (v := (-9)) hx hb dX4_why_20 (by decide) ?_
      refine g_retci hC hS ?_ dX4_why_22
      exact Or.inl ⟨(by rw [← et0, ← et1]; exact Or.inr ht1), rfl, gt_same hgt1 hck hP⟩
    · refine W.eq (g2 := F0 m 11 ls [.ref (d + 11)]) rfl ?_
      refine lv_astore_n (lv' := [(2, .ref (d + 11)), (1, .ref (r + 11)), (0, .ref g)]) hx hb dX4_why_11 rfl hl (by decide) rfl (fun ls hl => ?_)
      refine lv_aload_n hx hb dX4_why_12 rfl (lv_at hl 1 rfl) ?_
      refine lv_ifnull hx hb dX4_why_13 ?_
      refine lv_aload_n hx hb dX4_why_16 rfl (lv_at hl 0 rfl) ?_
      refine lv_ifnonnull (tgt := 23) hx hb dX4_why_17 (by decide) ?_
      refine lv_aload_n hx hb dX4_why_23 rfl (lv_at hl 1 rfl) ?_
      refine g_get hC hP hgt1.2.2.2.2.2.2.2.2.2.2.1.1 rfl inX2 2 (by decide) q1_44 hmi0.2.2.1 dX4_why_24 ?_
      refine lv_aload_n hx hb dX4_why_27 rfl (lv_at hl 0 rfl) ?_
      refine g_get hC hP hgt1.2.2.2.2.2.2.2.2.2.2.2.1.1 rfl inX2 3 (by decide) q1_47 hmi1.2.2.2 dX4_why_28 ?_
      refine lv_iconst (v := (-1)) hx hb dX4_why_31 (by decide) ?_
      refine lv_ixor hx hb dX4_why_32 ?_
      refine lv_iand hx hb dX4_why_33 ?_
      refine g_topi (y := nI (adn t0.2.2.1 t1.2.2.2)) (adn_eq ok0a ok1b) ?_
      refine g_cp (g_rS (As := [.int (nI (adn t0.2.2.1 t1.2.2.2))]) hC (c_X4_firstOf l (B := adn t0.2.2.1 t1.2.2.2) (by first | exact adn_lt ok0a | exact adn_lt ok1a)) ⟨q2_8, q2_6, q2_7, q1_1⟩ dd_X4_firstOf ⟨Nat.le_of_ble_eq_true rfl, Nat.le_of_ble_eq_true rfl, rfl, rfl⟩ hl.1 rfl (Nat.le_of_ble_eq_true rfl) dX4_why_34 ⟨Nat.le_of_ble_eq_true rfl, Nat.le_of_ble_eq_true rfl⟩) ?_
      refine W.eq (g2 := F0 m 37 ls [.int (oI (fst4 (adn t0.2.2.1 t1.2.2.2).testBit))]) rfl ?_
      refine lv_istore_n (lv' := [(3, .int (oI (fst4 (adn t0.2.2.1 t1.2.2.2).testBit))), (2, .ref (d + 11)), (1, .ref (r + 11)), (0, .ref g)]) hx hb dX4_why_37 rfl hl (by decide) rfl (fun ls hl => ?_)
      refine lv_iload_n hx hb dX4_why_38 rfl (lv_at hl 0 rfl) ?_
      refine lv_bipush (v := (-9)) hx hb dX4_why_39 (by decide) ?_
      refine lv_icmp_eq (tgt := 46) hx hb dX4_why_41 (by decide) (fun c41 => ?_) (fun c41 => ?_)
      · refine lv_aload_n hx hb dX4_why_46 rfl (lv_at hl 1 rfl) ?_
        refine g_get hC hP hgt1.2.2.2.2.2.2.2.2.2.2.2.1.1 rfl inX2 2 (by decide) q1_44 hmi1.2.2.1 dX4_why_47 ?_
        refine lv_aload_n hx hb dX4_why_50 rfl (lv_at hl 2 rfl) ?_
        refine g_get hC hP hgt1.2.2.2.2.2.2.2.2.2.2.1.1 rfl inX2 3 (by decide) q1_47 hmi0.2.2.2 dX4_why_51 ?_
        refine lv_iconst (v := (-1)) hx hb dX4_why_54 (by decide) ?_
        refine lv_ixor hx hb dX4_why_55 ?_
        refine lv_iand hx hb dX4_why_56 ?_
        refine g_topi (y := nI (adn t1.2.2.1 t0.2.2.2)) (adn_eq ok1a ok0b) ?_
        refine g_cp (g_rS (As := [.int (nI (adn t1.2.2.1 t0.2.2.2))]) hC (c_X4_firstOf l (B := adn t1.2.2.1 t0.2.2.2) (by first | exact adn_lt ok0a | exact adn_lt ok1a)) ⟨q2_8, q2_6, q2_7, q1_1⟩ dd_X4_firstOf ⟨Nat.le_of_ble_eq_true rfl, Nat.le_of_ble_eq_true rfl, rfl, rfl⟩ hl.1 rfl (Nat.le_of_ble_eq_true rfl) dX4_why_57 ⟨Nat.le_of_ble_eq_true rfl, Nat.le_of_ble_eq_true rfl⟩) ?_
        refine W.eq (g2 := F0 m 60 ls [.int (oI (fst4 (adn t1.2.2.1 t0.2.2.2).testBit))]) rfl ?_
        refine lv_istore (lv' := [(4, .int (oI (fst4 (adn t1.2.2.1 t0.2.2.2).testBit))), (3, .int (oI (fst4 (adn t0.2.2.1 t1.2.2.2).testBit))), (2, .ref (d + 11)), (1, .ref (r + 11)), (0, .ref g)]) hx hb dX4_why_60 hl (by decide) rfl (fun ls hl => ?_)
        refine lv_iload hx hb dX4_why_62 (lv_at hl 0 rfl) ?_
        refine lv_bipush (v := (-9)) hx hb dX4_why_64 (by decide) ?_
        refine lv_icmp_ne (tgt := 74) hx hb dX4_why_66 (by decide) (fun c66 => ?_) (fun c66 => ?_)
        · refine lv_bipush (v := nI 10) hx hb dX4_why_74 (by decide) ?_
          refine lv_iload hx hb dX4_why_76 (lv_at hl 0 rfl) ?_
          refine lv_iadd hx hb dX4_why_78 ?_
          refine g_retci hC hS ?_ dX4_why_79
          refine Or.inr ⟨et0 ▸ ht0, et1 ▸ ht1, ?_, gt_same hgt1 hck hP⟩
          rw [← et0, ← et1]
          unfold whyV
          have e0 := (oI_none (fun k hk => fst4_b hk)).mp c41
          rw [e0]
          cases e1 : fst4 (adn t1.2.2.1 t0.2.2.2).testBit with
          | none => first | rfl | (rw [e1] at c66; exact absurd rfl c66)
          | some k => first | rfl | (have e2 := (oI_none (fun k hk => fst4_b hk)).mp c66; rw [e1] at e2; cases e2)
        · refine lv_bipush (v := (-9)) hx hb dX4_why_69 (by decide) ?_
          refine lv_goto (tgt := 79) hx hb dX4_why_71 (by decide) ?_
          refine g_retci hC hS ?_ dX4_why_79
          refine Or.inr ⟨et0 ▸ ht0, et1 ▸ ht1, ?_, gt_same hgt1 hck hP⟩
          rw [← et0, ← et1]
          unfold whyV
          have e0 := (oI_none (fun k hk => fst4_b hk)).mp c41
          rw [e0]
          cases e1 : fst4 (adn t1.2.2.1 t0.2.2.2).testBit with
          | none => first | rfl | (rw [e1] at c66; exact absurd rfl c66)
          | some k => first | rfl | (have e2 := (oI_none (fun k hk => fst4_b hk)).mp c66; rw [e1] at e2; cases e2)
      · refine lv_iload_n hx hb dX4_why_44 rfl (lv_at hl 0 rfl) ?_
        refine g_retci hC hS ?_ dX4_why_45
        refine Or.inr ⟨et0 ▸ ht0, et1 ▸ ht1, ?_, gt_same hgt1 hck hP⟩
        rw [← et0, ← et1]
        unfold whyV
        cases e0 : fst4 (adn t0.2.2.1 t1.2.2.2).testBit with
        | none => rw [e0] at c41; exact absurd rfl c41
        | some k => rfl
set_option maxHeartbeats 4000000 in
set_option maxRecDepth 100000 in
theorem c_X4_answers (l : Launch) {G : gG} {T : gTy} {I : gI} {J : gJ} {Q : gR} {O : gO} {H : Heap} (hP : gP G T I J Q O H) {g r d mr md : Nat} {ck : Bool} {cr cd : CL} {Sr Sd : Nat → Prop} {q : Int32} (hg : isGT T J Q O g r d mr md ck cr cd Sr Sd) (hck : ckOK ck cr cd mr md (I (r + 9)) (I (d + 9))) : Met l yX4_answers (gw yX4_answers cX4_answers 3 (some (.int))) ({ frames := 5, cells := 0, slots := 0, locals := 117 } : Room) (gPc G H [.ref g, .int q]) (gQc (gF T H) (fun x H1 => rAnswers (gsI I g r d mr md) (fun x1 s1 => x = some (.int x1) ∧ gtG G T H.size g s1 H1) q)) 0 0 (gF T H) := by
  refine g_met [(0, .ref g), (1, .int q)] (by decide) rfl (by exact Nat.le_of_ble_eq_true rfl) ?_
  intro p e s m below meth c hC hs ls hl
  have hx := hC.1.1
  have hb := hC.1.2.1
  have hS : va_S (gF T H) s.heap H [] := hs ▸ va_S.rf
  have hTA : ∀ q, (T q).1 ≠ 0 → gF T H q := fun q h => Or.inl h
  have hA : ∀ q, s.heap.size ≤ q → gF T H q := fun q h => Or.inr (hs ▸ h)
  generalize hAe : gF T H = A at hS hTA hA ⊢
  have hg_lo8 := hg.2.2.2.2.2.2.2.2.1.2.2.2.2.2.2.2.2.1
  have hg_hi8 := hg.2.2.2.2.2.2.2.2.1.2.2.2.2.2.2.2.2.2
  have hg_lo9 := hg.2.2.2.2.2.2.2.2.2.1.2.2.2.2.2.2.2.2.1
  have hg_hi9 := hg.2.2.2.2.2.2.2.2.2.1.2.2.2.2.2.2.2.2.2
  have hg_ad := hg.2.2.2.2.2.2.2.2.2.2.2.2.2.2.2.2.1
  obtain ⟨t0, et0⟩ : ∃ x : MixV, x = gsT0 (gsI I g r d mr md) := ⟨_, rfl⟩
  obtain ⟨t1, et1⟩ : ∃ x : MixV, x = gsT1 (gsI I g r d mr md) := ⟨_, rfl⟩
  have ok0 : vOK t0 := et0 ▸ twV_ok hg_hi9
  have ok1 : vOK t1 := et1 ▸ twV_ok hg_hi8
  have ok0a := ok0.1
  have ok0b := ok0.2
  have ok1a := ok1.1
  have ok1b := ok1.2
  refine lv_iload_n hx hb dX4_answers_0 rfl (lv_at hl 1 rfl) ?_
  refine g_cp (g_rS (As := [.int q]) hC (c_X4_isWho l (q := q)) ⟨q1_153, q1_151, q1_152, q1_1⟩ dd_X4_isWho ⟨Nat.le_of_ble_eq_true rfl, Nat.le_of_ble_eq_true rfl, rfl, rfl⟩ hl.1 rfl (Nat.le_of_ble_eq_true rfl) dX4_answers_1 ⟨Nat.le_of_ble_eq_true rfl, Nat.le_of_ble_eq_true rfl⟩) ?_
  refine W.eq (g2 := F0 m 4 ls [.int (gb (isW q))]) rfl ?_
  refine lv_if_ne (tgt := 13) hx hb dX4_answers_4 (by decide) (fun c4 => ?_) (fun c4 => ?_)
  · have c4 := gb_t c4
    rcases isW_c c4 with rfl | rfl
    · refine lv_aload_n hx hb dX4_answers_13 rfl (lv_at hl 0 rfl) ?_
      refine lv_iconst (v := nI 1) hx hb dX4_answers_14 (by decide) ?_
      refine lv_iload_n hx hb dX4_answers_15 rfl (lv_at hl 1 rfl) ?_
      refine lv_isub hx hb dX4_answers_16 ?_
      refine g_topi (y := nI 1) (by decide) ?_
      refine g_cc (g_rV (As := [.int (nI 1)]) hC hP (c_X4_trayOf_1 l hP (g := g) (by first | assumption | omega)) hg.1 rfl ⟨q1_199, q1_196, q1_198, qs_5, q1_1⟩ dd_X4_trayOf ⟨Nat.le_of_ble_eq_true rfl, Nat.le_of_ble_eq_true rfl, rfl, rfl⟩ hl.1 rfl (Nat.le_of_ble_eq_true rfl) dX4_answers_17 ⟨Nat.le_of_ble_eq_true rfl, Nat.le_of_ble_eq_true rfl⟩) hS (fun q h => h.elim (hTA q) (fun z => hA q (Nat.le_trans hS.1 z))) (fun r5 H1 locs2 hq6 hS hz3 hfr4 => ?_)
      obtain ⟨J7, O8, hP, hj0, ho0, hoz0, hh⟩ := hq6
      have hgt0 := isGT_tray hg (Or.inr rfl) hj0 ho0 hoz0
      rw [show twV (I (r + 9)) (I (d + 10)) md mr = t1 from et1.symm] at hh
      rcases hh with ⟨ht1, rfl⟩ | ⟨ht1, rfl, hmi1⟩
      · refine W.eq (g2 := F0 m 20 ls [.null]) rfl ?_
        refine lv_astore_nN (lv' := [(2, .null), (0, .ref g), (1, .int (nI 0))]) hx hb dX4_answers_20 rfl hl (by decide) rfl (fun ls hl => ?_)
        refine lv_aload_nN hx hb dX4_answers_21 rfl (lv_at hl 0 rfl) ?_
        refine lv_ifnonnullN hx hb dX4_answers_22 ?_
        refine lv_aload_n hx hb dX4_answers_25 rfl (lv_at hl 1 rfl) ?_
        refine lv_bipush (v := (-5)) hx hb dX4_answers_26 (by decide) ?_
        refine g_cc (g_rV (As := [.int (-5 : Int32)]) hC hP (c_X4_refuse l hP (g := g) (q := (-5 : Int32)) (j := 5) (by first | assumption | omega) (by decide) (by omega)) hgt0.1 rfl ⟨q1_138, q1_135, q1_137, qs_0, q1_1⟩ dd_X4_refuse ⟨Nat.le_of_ble_eq_true rfl, Nat.le_of_ble_eq_true rfl, rfl, rfl⟩ hl.1 rfl (Nat.le_of_ble_eq_true rfl) dX4_answers_28 ⟨Nat.le_of_ble_eq_true rfl, Nat.le_of_ble_eq_true rfl⟩) hS (fun q h => h.elim (hTA q) (fun z => hA q (Nat.le_trans hS.1 z))) (fun r13 H9 locs10 hq14 hS hz11 hfr12 => ?_)
        obtain ⟨rfl, hP⟩ := hq14
        obtain ⟨I15, hI15, hP⟩ : ∃ I15 : gI, I15 = au I (g + 28) 5 (I (g + 28) 5 + 1) ∧ gP G T I15 J7 Q O8 H9 := ⟨_, rfl, hP⟩
        refine W.eq (g2 := F0 m 31 ls [.int (-5 : Int32)]) rfl ?_
        refine lv_goto (tgt := 38) hx hb dX4_answers_31 (by decide) ?_
        refine g_retci hC hS ?_ dX4_answers_38
        exact Or.inr (Or.inl ⟨rfl, Or.inl ⟨et1 ▸ ht1, rfl, gt_ref hgt0 hck hI15 hP⟩⟩)
      · refine W.eq (g2 := F0 m 20 ls [.ref (d + 11)]) rfl ?_
        refine lv_astore_n (lv' := [(2, .ref (d + 11)), (0, .ref g), (1, .int (nI 0))]) hx hb dX4_answers_20 rfl hl (by decide) rfl (fun ls hl => ?_)
        refine lv_aload_n hx hb dX4_answers_21 rfl (lv_at hl 0 rfl) ?_
        refine lv_ifnonnull (tgt := 34) hx hb dX4_answers_22 (by decide) ?_
        refine lv_aload_n hx hb dX4_answers_34 rfl (lv_at hl 0 rfl) ?_
        refine g_get hC hP hgt0.2.2.2.2.2.2.2.2.2.2.2.1.1 rfl inX2 3 (by decide) q1_47 hmi1.2.2.2 dX4_answers_35 ?_
        refine g_retci hC hS ?_ dX4_answers_38
        exact Or.inr (Or.inl ⟨rfl, Or.inr ⟨et1 ▸ ht1, by rw [← et1], gt_same hgt0 hck hP⟩⟩)
    · refine lv_aload_n hx hb dX4_answers_13 rfl (lv_at hl 0 rfl) ?_
      refine lv_iconst (v := nI 1) hx hb dX4_answers_14 (by decide) ?_
      refine lv_iload_n hx hb dX4_answers_15 rfl (lv_at hl 1 rfl) ?_
      refine lv_isub hx hb dX4_answers_16 ?_
      refine g_topi (y := nI 0) (by decide) ?_
      refine g_cc (g_rV (As := [.int (nI 0)]) hC hP (c_X4_trayOf_0 l hP (g := g) (by first | assumption | omega)) hg.1 rfl ⟨q1_199, q1_196, q1_198, qs_5, q1_1⟩ dd_X4_trayOf ⟨Nat.le_of_ble_eq_true rfl, Nat.le_of_ble_eq_true rfl, rfl, rfl⟩ hl.1 rfl (Nat.le_of_ble_eq_true rfl) dX4_answers_17 ⟨Nat.le_of_ble_eq_true rfl, Nat.le_of_ble_eq_true rfl⟩) hS (fun q h => h.elim (hTA q) (fun z => hA q (Nat.le_trans hS.1 z))) (fun r20 H16 locs17 hq21 hS hz18 hfr19 => ?_)
      obtain ⟨J22, O23, hP, hj0, ho0, hoz0, hh⟩ := hq21
      have hgt0 := isGT_tray hg (Or.inl rfl) hj0 ho0 hoz0
      rw [show twV (I (d + 9)) (I (r + 10)) mr md = t0 from et0.symm] at hh
      rcases hh with ⟨ht0, rfl⟩ | ⟨ht0, rfl, hmi0⟩
      · refine W.eq (g2 := F0 m 20 ls [.null]) rfl ?_
        refine lv_astore_nN (lv' := [(2, .null), (0, .ref g), (1, .int (nI 1))]) hx hb dX4_answers_20 rfl hl (by decide) rfl (fun ls hl => ?_)
        refine lv_aload_nN hx hb dX4_answers_21 rfl (lv_at hl 0 rfl) ?_
        refine lv_ifnonnullN hx hb dX4_answers_22 ?_
        refine lv_aload_n hx hb dX4_answers_25 rfl (lv_at hl 1 rfl) ?_
        refine lv_bipush (v := (-5)) hx hb dX4_answers_26 (by decide) ?_
        refine g_cc (g_rV (As := [.int (-5 : Int32)]) hC hP (c_X4_refuse l hP (g := g) (q := (-5 : Int32)) (j := 5) (by first | assumption | omega) (by decide) (by omega)) hgt0.1 rfl ⟨q1_138, q1_135, q1_137, qs_0, q1_1⟩ dd_X4_refuse ⟨Nat.le_of_ble_eq_true rfl, Nat.le_of_ble_eq_true rfl, rfl, rfl⟩ hl.1 rfl (Nat.le_of_ble_eq_true rfl) dX4_answers_28 ⟨Nat.le_of_ble_eq_true rfl, Nat.le_of_ble_eq_true rfl⟩) hS (fun q h => h.elim (hTA q) (fun z => hA q (Nat.le_trans hS.1 z))) (fun r28 H24 locs25 hq29 hS hz26 hfr27 => ?_)
        obtain ⟨rfl, hP⟩ := hq29
        obtain ⟨I30, hI30, hP⟩ : ∃ I30 : gI, I30 = au I (g + 28) 5 (I (g + 28) 5 + 1) ∧ gP G T I30 J22 Q O23 H24 := ⟨_, rfl, hP⟩
        refine W.eq (g2 := F0 m 31 ls [.int (-5 : Int32)]) rfl ?_
        refine lv_goto (tgt := 38) hx hb dX4_answers_31 (by decide) ?_
        refine g_retci hC hS ?_ dX4_answers_38
        exact Or.inr (Or.inr ⟨rfl, Or.inl ⟨et0 ▸ ht0, rfl, gt_ref hgt0 hck hI30 hP⟩⟩)
      · refine W.eq (g2 := F0 m 20 ls [.ref (r + 11)]) rfl ?_
        refine lv_astore_n (lv' := [(2, .ref (r + 11)), (0, .ref g), (1, .int (nI 1))]) hx hb dX4_answers_20 rfl hl (by decide) rfl (fun ls hl => ?_)
        refine lv_aload_n hx hb dX4_answers_21 rfl (lv_at hl 0 rfl) ?_
        refine lv_ifnonnull (tgt := 34) hx hb dX4_answers_22 (by decide) ?_
        refine lv_aload_n hx hb dX4_answers_34 rfl (lv_at hl 0 rfl) ?_
        refine g_get hC hP hgt0.2.2.2.2.2.2.2.2.2.2.1.1 rfl inX2 3 (by decide) q1_47 hmi0.2.2.2 dX4_answers_35 ?_
        refine g_retci hC hS ?_ dX4_answers_38
        exact Or.inr (Or.inr ⟨rfl, Or.inr ⟨et0 ▸ ht0, by rw [← et0], gt_same hgt0 hck hP⟩⟩)
  · have c4 := gb_f c4
    refine lv_aload_n hx hb dX4_answers_7 rfl (lv_at hl 0 rfl) ?_
    refine lv_iconst (v := (-1)) hx hb dX4_answers_8 (by decide) ?_
    refine g_cc (g_rV (As := [.int (-1 : Int32)]) hC hP (c_X4_refuse l hP (g := g) (q := (-1 : Int32)) (j := 1) (by first | assumption | omega) (by decide) (by omega)) hg.1 rfl ⟨q1_138, q1_135, q1_137, qs_0, q1_1⟩ dd_X4_refuse ⟨Nat.le_of_ble_eq_true rfl, Nat.le_of_ble_eq_true rfl, rfl, rfl⟩ hl.1 rfl (Nat.le_of_ble_eq_true rfl) dX4_answers_9 ⟨Nat.le_of_ble_eq_true rfl, Nat.le_of_ble_eq_true rfl⟩) hS (fun q h => h.elim (hTA q) (fun z => hA q (Nat.le_trans hS.1 z))) (fun r35 H31 locs32 hq36 hS hz33 hfr34 => ?_)
    obtain ⟨rfl, hP⟩ := hq36
    obtain ⟨I37, hI37, hP⟩ : ∃ I37 : gI, I37 = au I (g + 28) 1 (I (g + 28) 1 + 1) ∧ gP G T I37 J Q O H31 := ⟨_, rfl, hP⟩
    refine W.eq (g2 := F0 m 12 ls [.int (-1 : Int32)]) rfl ?_
    refine g_retci hC hS ?_ dX4_answers_12
    exact Or.inl ⟨c4, rfl, gt_ref hg hck hI37 hP⟩
