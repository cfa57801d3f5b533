/-! ===== status, balance ===== -/
theorem k10 {k : Int32} (h1 : ¬ k ≤ nI 10) (h2 : k ≤ nI 16) : ∃ j : Nat, 1 ≤ j ∧ j ≤ 6 ∧ k = nI (10 + j) := by
  have e1 : (nI 10).toInt = 10 := by decide
  have e4 : (nI 16).toInt = 16 := by decide
  simp only [Int32.le_iff_toInt_le, e1, e4] at h1 h2
  obtain ⟨j, hj, rfl⟩ := nI_of (x := k) (by simp only [Int32.lt_iff_toInt_lt]; have e0 : (0 : Int32).toInt = 0 := (by decide); omega)
  rw [nI_toInt hj] at h1 h2
  exact ⟨j - 10, by omega, by omega, by rw [show 10 + (j - 10) = j from by omega]⟩
theorem k10s {j : Nat} (h : j ≤ 6) : nI (10 + j) - nI 10 = nI j := by
  have q : ∀ j, j < 7 → nI (10 + j) - nI 10 = nI j := by decide
  exact q j (by omega)
def rfC (rf : Nat → Int32) (k : Int32) (x : Int32) : Prop := ((k ≤ nI 10 ∨ nI 16 < k) ∧ x = -9) ∨ ∃ j : Nat, 1 ≤ j ∧ j ≤ 6 ∧ k = nI (10 + j) ∧ x = rf j
theorem k04 {k : Int32} (h0 : ¬ k = 0) (h1 : ¬ k = 1) (h2 : ¬ k = 2) (h3 : ¬ k = 3) (h4 : ¬ k = 4) : ¬ (0 ≤ k.toInt ∧ k.toInt ≤ 4) := by
  rintro ⟨a, b⟩
  obtain ⟨j, hj, rfl⟩ := nI_of (x := k) (by simp only [Int32.lt_iff_toInt_lt]; have e0 : (0 : Int32).toInt = 0 := (by decide); omega)
  rw [nI_toInt hj] at b
  rcases (show j = 0 ∨ j = 1 ∨ j = 2 ∨ j = 3 ∨ j = 4 by omega) with rfl | rfl | rfl | rfl | rfl
  · exact h0 rfl
  · exact h1 rfl
  · exact h2 rfl
  · exact h3 rfl
  · exact h4 rfl
theorem nI_div69 {j l : Nat} (hj : j < 69) (hl : l < 69) : nI (j * 69 + l) / nI 69 = nI j ∧ nI (j * 69 + l) % nI 69 = nI l := by
  have a1 := nI_toInt (n := j * 69 + l) (by omega)
  have a2 := nI_toInt (n := j) (by omega)
  have a3 := nI_toInt (n := l) (by omega)
  have a4 : (nI 69).toInt = 69 := by decide
  constructor
  · apply Int32.toInt_inj.mp
    rw [Int32.toInt_div, a1, a2, a4, Int.tdiv_eq_ediv_of_nonneg (by omega), show ((j * 69 + l : Nat) : Int) / 69 = j by omega]
    exact Int.bmod_eq_of_le (by omega) (by omega)
  · apply Int32.toInt_inj.mp
    rw [Int32.toInt_mod, a1, a3, a4, Int.tmod_eq_emod_of_nonneg (by omega)]
    omega
theorem pairP_inv {cr cd : CL} {bb z : Nat} (h69 : cd.1 ≤ 69) (h : pairP cr cd bb = some z) : ∃ j l : Nat, j < cr.1 ∧ l < cd.1 ∧ fitP cr cd j l = true ∧ bpos cr cd j l = bb ∧ z = j * 69 + l := by
  obtain ⟨h1, h2⟩ := fstN_lt h
  simp only [Bool.and_eq_true, decide_eq_true_eq] at h2
  exact ⟨z / 69, z % 69, by omega, h2.1, h2.2.1, h2.2.2, by omega⟩
theorem msum_congr {P : Nat → Int32} {X X' Y Y' : Nat → Int64} (h2 : ∀ j, j < 4 → Y j = Y' j) : ∀ n, (∀ j, j < n → X j = X' j) → msum P X Y n = msum P X' Y' n
  | 0, _ => rfl
  | n + 1, h => by
    unfold msum
    rw [msum_congr h2 n (fun j hj => h j (by omega)), h n (by omega), wsum_congr n 4 h2]
def mnV (P : Nat → Int32) (ch : Nat) (v w : MixV) (f : Int32) : Int64 := lowS (msum P v.1 w.1 ch) (v.2.1 * w.2.1) f
section REL3
variable (s : GS) (L : Int64 → GS → Prop)
def rBal1 (v w : MixV) (j l : Nat) (f : Int32) : Prop := ((f < nI 0 ∨ nI 6 < f) ∧ L (4000000000000000000 - (-2 : Int32).toInt64) (gsRef s 2)) ∨ (f = 0 ∧ L (nI j).toInt64 s) ∨ (f = 1 ∧ L (nI l).toInt64 s) ∨ (f = 2 ∧ L (nI (kindV (gsm s) (gsn s) v w)).toInt64 s) ∨ ((f = 3 ∨ f = 4) ∧ L (mnV (gsP0 s) (gsm s) v w (f - nI 3)) s) ∨ ((¬ f < nI 0 ∧ ¬ nI 6 < f ∧ ¬ f = 0 ∧ ¬ f = 1 ∧ ¬ f = 2 ∧ ¬ f = 3 ∧ ¬ f = 4) ∧ L (mnV (gsP1 s) (gsn s) w v (f - nI 5)) s)
def rBalance (b f : Int32) : Prop := ((b < nI 0 ∨ ∃ bb : Nat, bb < 2 ^ 31 ∧ b = nI bb ∧ pairP (gsCr s) (gsCd s) bb = none) ∧ L (4000000000000000000 - (-1 : Int32).toInt64) (gsRef s 1)) ∨ ∃ bb j l : Nat, bb < 2 ^ 31 ∧ b = nI bb ∧ j < (gsCr s).1 ∧ l < (gsCd s).1 ∧ fitP (gsCr s) (gsCd s) j l = true ∧ bpos (gsCr s) (gsCd s) j l = bb ∧ rBal1 s L ((gsCr s).2 j) ((gsCd s).2 l) j l f
end REL3
set_option maxHeartbeats 4000000 in
set_option maxRecDepth 100000 in
theorem c_X4_refusalsCounted (l : Launch) {G : gG} {T : gTy} {I : gI} {J : gJ} {Q : gR} {O : gO} {H : Heap} (hP : gP G T I J Q O H) {g r d mr md : Nat} {ck : Bool} {cr cd : CL} {Sr Sd : Nat → Prop} {k : Int32} (hg : isGT T J Q O g r d mr md ck cr cd Sr Sd) : Met l yX4_refusalsCounted (gw yX4_refusalsCounted cX4_refusalsCounted 2 (some (.int))) ({ frames := 0, cells := 0, slots := 0, locals := 0 } : Room) (gPc G H [.ref g, .int k]) (gQc (gF T H) (fun x H1 => ∃ xr : Int32, x = some (.int xr) ∧ rfC (I (g + 28)) k xr ∧ gP G T I J Q O H1)) 0 0 (gF T H) := by
  refine g_met [(0, .ref g), (1, .int k)] (by decide) rfl (by exact Nat.le_of_ble_eq_true rfl) ?_
  intro p e s m below meth c hC hs ls hl
  have hx := hC.1.1
  have hb := hC.1.2.1
  have hS : va_S (gF T H) s.heap H [] := hs ▸ va_S.rf
  have hTA : ∀ q, (T q).1 ≠ 0 → gF T H q := fun q h => Or.inl h
  have hA : ∀ q, s.heap.size ≤ q → gF T H q := fun q h => Or.inr (hs ▸ h)
  generalize hAe : gF T H = A at hS hTA hA ⊢
  have hg_lo8 := hg.2.2.2.2.2.2.2.2.1.2.2.2.2.2.2.2.2.1
  have hg_hi8 := hg.2.2.2.2.2.2.2.2.1.2.2.2.2.2.2.2.2.2
  have hg_lo9 := hg.2.2.2.2.2.2.2.2.2.1.2.2.2.2.2.2.2.2.1
  have hg_hi9 := hg.2.2.2.2.2.2.2.2.2.1.2.2.2.2.2.2.2.2.2
  have hg_ad := hg.2.2.2.2.2.2.2.2.2.2.2.2.2.2.2.2.1
  refine lv_iload_n hx hb dX4_refusalsCounted_0 rfl (lv_at hl 1 rfl) ?_
  refine lv_bipush (v := nI 10) hx hb dX4_refusalsCounted_1 (by decide) ?_
  refine lv_icmp_le (tgt := 12) hx hb dX4_refusalsCounted_3 (by decide) (fun c3 => ?_) (fun c3 => ?_)
  · refine lv_bipush (v := (-9)) hx hb dX4_refusalsCounted_12 (by decide) ?_
    refine g_retci hC hS ?_ dX4_refusalsCounted_14
    exact ⟨_, rfl, Or.inl ⟨(by first | exact Or.inl c3 | exact Or.inr (Int32.not_le.mp c9)), rfl⟩, hP⟩
  · refine lv_iload_n hx hb dX4_refusalsCounted_6 rfl (lv_at hl 1 rfl) ?_
    refine lv_bipush (v := nI 16) hx hb dX4_refusalsCounted_7 (by decide) ?_
    refine lv_icmp_le (tgt := 15) hx hb dX4_refusalsCounted_9 (by decide) (fun c9 => ?_) (fun c9 => ?_)
    · obtain ⟨j, hj1, hj6, rfl⟩ := k10 c3 c9
      refine lv_aload_n hx hb dX4_refusalsCounted_15 rfl (lv_at hl 0 rfl) ?_
      refine g_get hC hP hg.1 rfl inX4 3 (by decide) q1_118 hg.2.2.2.2.1 dX4_refusalsCounted_16 ?_
      refine lv_iload_n hx hb dX4_refusalsCounted_19 rfl (lv_at hl 1 rfl) ?_
      refine lv_bipush (v := nI 10) hx hb dX4_refusalsCounted_20 (by decide) ?_
      refine lv_isub hx hb dX4_refusalsCounted_22 ?_
      refine g_topi (y := nI j) (k10s hj6) ?_
      refine g_iald hC hP hg.2.2.2.2.2.2.1 (vp_in_nI (by omega) (by decide)) dX4_refusalsCounted_23 ?_
      refine g_topi (y := I (g + 28) j) (congrArg (I (g + 28)) (nI_clamp (by omega))) ?_
      refine g_retci hC hS ?_ dX4_refusalsCounted_24
      exact ⟨_, rfl, Or.inr ⟨j, hj1, hj6, rfl, rfl⟩, hP⟩
    · refine lv_bipush (v := (-9)) hx hb dX4_refusalsCounted_12 (by decide) ?_
      refine g_retci hC hS ?_ dX4_refusalsCounted_14
      exact ⟨_, rfl, Or.inl ⟨(by first | exact Or.inl c3 | exact Or.inr (Int32.not_le.mp c9)), rfl⟩, hP⟩
set_option maxHeartbeats 4000000 in
set_option maxRecDepth 100000 in
theorem c_X4_status (l : Launch) {G : gG} {T : gTy} {I : gI} {J : gJ} {Q : gR} {O : gO} {H : Heap} (hP : gP G T I J Q O H) {g r d mr md : Nat} {ck : Bool} {cr cd : CL} {Sr Sd : Nat → Prop} {k : Int32} (hg : isGT T J Q O g r d mr md ck cr cd Sr Sd) (hck : ckOK ck cr cd mr md (I (r + 9)) (I (d + 9))) : Met l yX4_status (gw yX4_status cX4_status 2 (some (.int))) ({ frames := 7, cells := 900, slots := 3600, locals := 154 } : Room) (gPc G H [.ref g, .int k]) (gQc (gF T H) (fun x H1 => rStatus (gsI I g r d mr md) (fun x1 s1 => x = some (.int x1) ∧ gtG G T H.size g s1 H1) k)) 900 3600 (gF T H) := by
  refine g_met [(0, .ref g), (1, .int k)] (by decide) rfl (by exact Nat.le_of_ble_eq_true rfl) ?_
  intro p e s m below meth c hC hs ls hl
  have hx := hC.1.1
  have hb := hC.1.2.1
  have hS : va_S (gF T H) s.heap H [] := hs ▸ va_S.rf
  have hTA : ∀ q, (T q).1 ≠ 0 → gF T H q := fun q h => Or.inl h
  have hA : ∀ q, s.heap.size ≤ q → gF T H q := fun q h => Or.inr (hs ▸ h)
  generalize hAe : gF T H = A at hS hTA hA ⊢
  have hg_lo8 := hg.2.2.2.2.2.2.2.2.1.2.2.2.2.2.2.2.2.1
  have hg_hi8 := hg.2.2.2.2.2.2.2.2.1.2.2.2.2.2.2.2.2.2
  have hg_lo9 := hg.2.2.2.2.2.2.2.2.2.1.2.2.2.2.2.2.2.2.1
  have hg_hi9 := hg.2.2.2.2.2.2.2.2.2.1.2.2.2.2.2.2.2.2.2
  have hg_ad := hg.2.2.2.2.2.2.2.2.2.2.2.2.2.2.2.2.1
  refine lv_iload_n hx hb dX4_status_0 rfl (lv_at hl 1 rfl) ?_
  by_cases hsw0 : k = 0
  · refine lv_tableIn (tgt := 36) (off := 35) hx hb dX4_status_1 (by rw [hsw0]; decide) (by rw [hsw0]; decide) (by rw [hsw0]; decide) (by decide) ?_
    refine lv_aload_n hx hb dX4_status_36 rfl (lv_at hl 0 rfl) ?_
    refine g_get hC hP hg.1 rfl inX4 0 (by decide) q1_115 hg.2.1 dX4_status_37 ?_
    refine g_get hC hP hg.2.2.2.2.2.2.2.2.1.1 rfl inX3 0 (by decide) q1_78 hg.2.2.2.2.2.2.2.2.1.2.1 dX4_status_40 ?_
    refine W.widen (k := 900) (n := 3600) (by omega) (by omega) ?_
    refine g_retci hC hS ?_ dX4_status_43
    exact Or.inl ⟨hsw0, rfl, gt_same hg hck hP⟩
  by_cases hsw1 : k = 1
  · refine lv_tableIn (tgt := 44) (off := 43) hx hb dX4_status_1 (by rw [hsw1]; decide) (by rw [hsw1]; decide) (by rw [hsw1]; decide) (by decide) ?_
    refine lv_aload_n hx hb dX4_status_44 rfl (lv_at hl 0 rfl) ?_
    refine g_get hC hP hg.1 rfl inX4 1 (by decide) q1_116 hg.2.2.1 dX4_status_45 ?_
    refine g_get hC hP hg.2.2.2.2.2.2.2.2.2.1.1 rfl inX3 0 (by decide) q1_78 hg.2.2.2.2.2.2.2.2.2.1.2.1 dX4_status_48 ?_
    refine W.widen (k := 900) (n := 3600) (by omega) (by omega) ?_
    refine g_retci hC hS ?_ dX4_status_51
    exact Or.inr (Or.inl ⟨hsw1, rfl, gt_same hg hck hP⟩)
  by_cases hsw2 : k = 2
  · refine lv_tableIn (tgt := 52) (off := 51) hx hb dX4_status_1 (by rw [hsw2]; decide) (by rw [hsw2]; decide) (by rw [hsw2]; decide) (by decide) ?_
    refine lv_aload_n hx hb dX4_status_52 rfl (lv_at hl 0 rfl) ?_
    refine g_get hC hP hg.1 rfl inX4 0 (by decide) q1_115 hg.2.1 dX4_status_53 ?_
    refine lv_aload_n hx hb dX4_status_56 rfl (lv_at hl 0 rfl) ?_
    refine g_get hC hP hg.1 rfl inX4 1 (by decide) q1_116 hg.2.2.1 dX4_status_57 ?_
    refine g_cp (g_rV (As := [.ref d]) hC hP (c_X3_takesFrom l hP (b := r) (ch := mr) (d := d) (dh := md) hg.2.2.2.2.2.2.2.2.1 hg.2.2.2.2.2.2.2.2.2.1) hg.2.2.2.2.2.2.2.2.1.1 rfl ⟨q2_231, q2_228, q2_229, q2_230, q1_2⟩ dd_X3_takesFrom ⟨Nat.le_of_ble_eq_true rfl, Nat.le_of_ble_eq_true rfl, rfl, rfl⟩ hl.1 rfl (Nat.le_of_ble_eq_true rfl) dX4_status_60 ⟨Nat.le_of_ble_eq_true rfl, Nat.le_of_ble_eq_true rfl⟩) ?_
    refine W.eq (g2 := F0 m 63 ls [.int (gb (zeroB (I (r + 9)) (I (d + 9)) mr md))]) rfl ?_
    refine lv_if_eq (tgt := 70) hx hb dX4_status_63 (by decide) (fun c63 => ?_) (fun c63 => ?_)
    · have c63 := gb_f c63
      refine lv_iconst (v := nI 0) hx hb dX4_status_70 (by decide) ?_
      refine W.widen (k := 900) (n := 3600) (by omega) (by omega) ?_
      refine g_retci hC hS ?_ dX4_status_71
      exact Or.inr (Or.inr (Or.inl ⟨hsw2, (by show some (Value.int _) = some (Value.int (gb _)); rw [show zeroB (gsP0 (gsI I g r d mr md)) (gsP1 (gsI I g r d mr md)) (gsm (gsI I g r d mr md)) (gsn (gsI I g r d mr md)) = _ from c63]; rfl), gt_same hg hck hP⟩))
    · have c63 := gb_t c63
      refine lv_iconst (v := nI 1) hx hb dX4_status_66 (by decide) ?_
      refine lv_goto (tgt := 71) hx hb dX4_status_67 (by decide) ?_
      refine W.widen (k := 900) (n := 3600) (by omega) (by omega) ?_
      refine g_retci hC hS ?_ dX4_status_71
      exact Or.inr (Or.inr (Or.inl ⟨hsw2, (by show some (Value.int _) = some (Value.int (gb _)); rw [show zeroB (gsP0 (gsI I g r d mr md)) (gsP1 (gsI I g r d mr md)) (gsm (gsI I g r d mr md)) (gsn (gsI I g r d mr md)) = _ from c63]; rfl), gt_same hg hck hP⟩))
  by_cases hsw3 : k = 3
  · refine lv_tableIn (tgt := 72) (off := 71) hx hb dX4_status_1 (by rw [hsw3]; decide) (by rw [hsw3]; decide) (by rw [hsw3]; decide) (by decide) ?_
    refine lv_aload_n hx hb dX4_status_72 rfl (lv_at hl 0 rfl) ?_
    refine g_get hC hP hg.1 rfl inX4 0 (by decide) q1_115 hg.2.1 dX4_status_73 ?_
    refine lv_aload_n hx hb dX4_status_76 rfl (lv_at hl 0 rfl) ?_
    refine g_get hC hP hg.1 rfl inX4 1 (by decide) q1_116 hg.2.2.1 dX4_status_77 ?_
    refine g_cp (g_rV (As := [.ref d]) hC hP (c_X3_isLike l hP (b := r) (ch := mr) (d := d) (dh := md) hg.2.2.2.2.2.2.2.2.1 hg.2.2.2.2.2.2.2.2.2.1) hg.2.2.2.2.2.2.2.2.1.1 rfl ⟨q2_235, q2_232, q2_233, q2_234, q1_2⟩ dd_X3_isLike ⟨Nat.le_of_ble_eq_true rfl, Nat.le_of_ble_eq_true rfl, rfl, rfl⟩ hl.1 rfl (Nat.le_of_ble_eq_true rfl) dX4_status_80 ⟨Nat.le_of_ble_eq_true rfl, Nat.le_of_ble_eq_true rfl⟩) ?_
    refine W.eq (g2 := F0 m 83 ls [.int (gb (likeB (I (r + 9)) (I (d + 9)) mr md))]) rfl ?_
    refine lv_if_eq (tgt := 90) hx hb dX4_status_83 (by decide) (fun c83 => ?_) (fun c83 => ?_)
    · have c83 := gb_f c83
      refine lv_iconst (v := nI 0) hx hb dX4_status_90 (by decide) ?_
      refine W.widen (k := 900) (n := 3600) (by omega) (by omega) ?_
      refine g_retci hC hS ?_ dX4_status_91
      exact Or.inr (Or.inr (Or.inr (Or.inl ⟨hsw3, (by show some (Value.int _) = some (Value.int (gb _)); rw [show likeB (gsP0 (gsI I g r d mr md)) (gsP1 (gsI I g r d mr md)) (gsm (gsI I g r d mr md)) (gsn (gsI I g r d mr md)) = _ from c83]; rfl), gt_same hg hck hP⟩)))
    · have c83 := gb_t c83
      refine lv_iconst (v := nI 1) hx hb dX4_status_86 (by decide) ?_
      refine lv_goto (tgt := 91) hx hb dX4_status_87 (by decide) ?_
      refine W.widen (k := 900) (n := 3600) (by omega) (by omega) ?_
      refine g_retci hC hS ?_ dX4_status_91
      exact Or.inr (Or.inr (Or.inr (Or.inl ⟨hsw3, (by show some (Value.int _) = some (Value.int (gb _)); rw [show likeB (gsP0 (gsI I g r d mr md)) (gsP1 (gsI I g r d mr md)) (gsm (gsI I g r d mr md)) (gsn (gsI I g r d mr md)) = _ from c83]; rfl), gt_same hg hck hP⟩)))
  by_cases hsw4 : k = 4
  · refine lv_tableIn (tgt := 92) (off := 91) hx hb dX4_status_1 (by rw [hsw4]; decide) (by rw [hsw4]; decide) (by rw [hsw4]; decide) (by decide) ?_
    refine lv_aload_n hx hb dX4_status_92 rfl (lv_at hl 0 rfl) ?_
    refine g_cc (g_rV (As := []) hC hP (c_X4_knowCorners l hP (g := g) (by first | assumption | omega) (by first | assumption | omega)) hg.1 rfl ⟨q2_84, q2_81, q2_83, qs_9, q1_1⟩ dd_X4_knowCorners ⟨Nat.le_of_ble_eq_true rfl, Nat.le_of_ble_eq_true rfl, rfl, rfl⟩ hl.1 rfl (Nat.le_of_ble_eq_true rfl) dX4_status_93 ⟨Nat.le_of_ble_eq_true rfl, Nat.le_of_ble_eq_true rfl⟩) hS (fun q h => h.elim (hTA q) (fun z => hA q (Nat.le_trans hS.1 z))) (fun r5 H1 locs2 hq6 hS hz3 hfr4 => ?_)
    obtain ⟨rfl, T7, J8, Q9, O10, Sr2, Sd2, hP, hE, hg2, hfr⟩ := hq6
    have hTA : ∀ q, (T7 q).1 ≠ 0 → A q := fun q hq => (hE q hq).elim (hTA q) (fun z => hA q (by first | (rw [hs]; exact z) | omega))
    obtain ⟨fr, sr, fd, sd, ar, ad, hgc⟩ := gt_C hg2 hg_hi8 hg_hi9
    obtain ⟨cr2, hcr2⟩ : ∃ x : CL, x = gsCr (gsI I g r d mr md) := ⟨_, rfl⟩
    obtain ⟨cd2, hcd2⟩ : ∃ x : CL, x = gsCd (gsI I g r d mr md) := ⟨_, rfl⟩
    have hg3 := hg2
    rw [← hcr2, ← hcd2] at hg2 hgc
    have hgc_c0 := hgc.1.2.2.1
    have hgc_f0 := hgc.1.2.2.2.1
    have hgc_c1 := hgc.2.1.2.2.1
    have hgc_f1 := hgc.2.1.2.2.2.1
    have hgc_r := hgc.2.2.2.2.2.2.1
    have hgc_d := hgc.2.2.2.2.2.2.2
    refine W.eq (g2 := F0 m 96 ls []) rfl ?_
    refine lv_aload_n hx hb dX4_status_96 rfl (lv_at hl 0 rfl) ?_
    refine g_get hC hP hg2.1 rfl inX4 0 (by decide) q1_115 hg2.2.1 dX4_status_97 ?_
    refine g_get hC hP hg2.2.2.2.2.2.2.2.2.1.1 rfl inX3 1 (by decide) q1_80 hg2.2.2.2.2.2.2.2.2.1.2.2.1 dX4_status_100 ?_
    refine g_get hC hP hg2.2.2.2.2.2.2.2.2.2.2.2.2.1.1 rfl inX0 0 (by decide) q1_62 hgc.1.1 dX4_status_103 ?_
    refine lv_aload_n hx hb dX4_status_106 rfl (lv_at hl 0 rfl) ?_
    refine g_get hC hP hg2.1 rfl inX4 1 (by decide) q1_116 hg2.2.2.1 dX4_status_107 ?_
    refine g_get hC hP hg2.2.2.2.2.2.2.2.2.2.1.1 rfl inX3 1 (by decide) q1_80 hg2.2.2.2.2.2.2.2.2.2.1.2.2.1 dX4_status_110 ?_
    refine g_get hC hP hg2.2.2.2.2.2.2.2.2.2.2.2.2.2.1.1 rfl inX0 0 (by decide) q1_62 hgc.2.1.1 dX4_status_113 ?_
    refine lv_iadd hx hb dX4_status_116 ?_
    refine g_topi (y := nI (cr2.1 + cd2.1)) (nI_add _ _) ?_
    refine W.widen (k := 900) (n := 3600) (by omega) (by omega) ?_
    refine g_retci hC hS ?_ dX4_status_117
    exact Or.inr (Or.inr (Or.inr (Or.inr (Or.inl ⟨hsw4, by rw [← hcr2, ← hcd2], gt_know hE hg3 hP⟩))))
  refine lv_tableOut (tgt := 118) hx hb dX4_status_1 (g_out (by decide) (k04 hsw0 hsw1 hsw2 hsw3 hsw4)) (by decide) ?_
  refine lv_aload_n hx hb dX4_status_118 rfl (lv_at hl 0 rfl) ?_
  refine lv_iload_n hx hb dX4_status_119 rfl (lv_at hl 1 rfl) ?_
  refine g_cc (g_rV (As := [.int k]) hC hP (c_X4_refusalsCounted l hP (g := g) (k := k) (by first | assumption | omega)) hg.1 rfl ⟨q2_239, q2_236, q2_238, qs_24, q1_1⟩ dd_X4_refusalsCounted ⟨Nat.le_of_ble_eq_true rfl, Nat.le_of_ble_eq_true rfl, rfl, rfl⟩ hl.1 rfl (Nat.le_of_ble_eq_true rfl) dX4_status_120 ⟨Nat.le_of_ble_eq_true rfl, Nat.le_of_ble_eq_true rfl⟩) hS (fun q h => h.elim (hTA q) (fun z => hA q (Nat.le_trans hS.1 z))) (fun r15 H11 locs12 hq16 hS hz13 hfr14 => ?_)
  obtain ⟨xr, rfl, hrc, hP⟩ := hq16
  refine W.eq (g2 := F0 m 123 ls [.int xr]) rfl ?_
  refine W.widen (k := 900) (n := 3600) (by omega) (by omega) ?_
  refine g_retci hC hS ?_ dX4_status_123
  refine Or.inr (Or.inr (Or.inr (Or.inr (Or.inr ⟨⟨hsw0, hsw1, hsw2, hsw3, hsw4⟩, ?_⟩))))
  rcases hrc with ⟨a1, rfl⟩ | ⟨j, a1, a2, rfl, rfl⟩
  · exact Or.inl ⟨a1, rfl, gt_same hg hck hP⟩
  · exact Or.inr ⟨j, a1, a2, rfl, rfl, gt_same hg hck hP⟩
