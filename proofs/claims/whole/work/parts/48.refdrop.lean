/-! ===== the reference: drop, left, times ===== -/
theorem oI_lt0 {o : Option Nat} (h : ∀ k, o = some k → k < 2 ^ 31) : oI o < 0 ↔ o = none := by
  cases o with
  | none => simp [oI]
  | some k =>
    simp only [oI, reduceCtorEq, iff_false]
    exact nI_pos (h k rfl)
theorem tb_lt {A m k : Nat} (h : A < 2 ^ m) (hb : A.testBit k = true) : k < m := by
  apply Nat.lt_of_not_le
  intro hle
  have := Nat.testBit_lt_two_pow (Nat.lt_of_lt_of_le h (Nat.pow_le_pow_right (by decide) hle))
  rw [hb] at this
  cases this
theorem wM_key2 {P : Nat → Int32} {c m n a A B : Nat} (hA : A < 2 ^ m) (hB : B < 2 ^ n) (hn : n ≤ 4) : (A.testBit a && pMore P a c B) = (decide (a < m) && wM P c A B n a) := by
  by_cases h : a < m
  · rw [decide_eq_true h, Bool.true_and]
    unfold wM
    congr 1
    rw [Bool.eq_iff_iff, pMore_iff, alM_iff]
    constructor
    · intro g k hk hb
      exact g k (by omega) hb
    · intro g k hk hb
      exact g k (tb_lt hB hb) hb
  · rw [decide_eq_false h, Bool.false_and]
    cases e : A.testBit a
    · rfl
    · exact absurd (tb_lt hA e) h
theorem worse_eq2 {P : Nat → Int32} {c m n A B : Nat} (hA : A < 2 ^ m) (hB : B < 2 ^ n) (hm : m ≤ 4) (hn : n ≤ 4) : fstN (wM P c A B n) m = fBet P c A B := by
  unfold fBet
  rw [fst4_congr (fun a ha => wM_key2 (m := m) hA hB hn)]
  symm
  cases e : fstN (wM P c A B n) m with
  | none =>
    unfold fstN at e
    refine fst4_none (fun k hk => ?_)
    by_cases h : k < m
    · have := List.find?_eq_none.mp e k (List.mem_range.mpr h)
      rw [decide_eq_true h, Bool.true_and]
      exact Bool.eq_false_iff.mpr this
    · rw [decide_eq_false h, Bool.false_and]
  | some i =>
    unfold fstN at e
    obtain ⟨h1, h2, h3⟩ := List.find?_range_eq_some.mp e
    have h2' := List.mem_range.mp h2
    refine fst4_some (by omega) (by rw [decide_eq_true h2', Bool.true_and]; exact h1) (fun k hk => ?_)
    have := h3 k hk
    rw [Bool.not_eq_true'] at this
    rw [this, Bool.and_false]
def dpR (A : Nat) (g : Nat → Bool) : Nat → Nat
  | 0 => A
  | k + 1 => dpR A g k - (if g k then 2 ^ k else 0)
theorem dpR_congr {A : Nat} {g g' : Nat → Bool} : ∀ n, (∀ k, k < n → g k = g' k) → dpR A g n = dpR A g' n
  | 0, _ => rfl
  | n + 1, h => by
    unfold dpR
    rw [dpR_congr n (fun k hk => h k (by omega)), h n (by omega)]
theorem dpR_le (A : Nat) (g : Nat → Bool) : ∀ n, dpR A g n ≤ A
  | 0 => Nat.le_refl A
  | n + 1 => by
    have := dpR_le A g n
    unfold dpR
    omega
def g4 (b0 b1 b2 b3 : Bool) (k : Nat) : Bool := if k = 0 then b0 else if k = 1 then b1 else if k = 2 then b2 else b3
theorem g4_eq (g : Nat → Bool) : ∀ k, k < 4 → g k = g4 (g 0) (g 1) (g 2) (g 3) k := fun k hk => by
  rcases (show k = 0 ∨ k = 1 ∨ k = 2 ∨ k = 3 by omega) with rfl | rfl | rfl | rfl <;> rfl
def wG (P : Nat → Int32) (A B : Nat) : Nat → Bool := fun c => A.testBit c && (fBet P c A B).isSome
theorem dp_q : ∀ A, A < 16 → ∀ b0 b1 b2 b3 : Bool, dpR A (fun c => A.testBit c && g4 b0 b1 b2 b3 c) 4 = msk (fun c => A.testBit c && !g4 b0 b1 b2 b3 c) 4 := by decide +kernel
theorem dp_q2 : ∀ A, A < 16 → ∀ b0 b1 b2 b3 : Bool, ∀ z, z < 4 → A.testBit z = true → 2 ^ z ≤ dpR A (fun c => A.testBit c && g4 b0 b1 b2 b3 c) z := by decide +kernel
theorem dp_q3 : ∀ A, A < 16 → ∀ b0 b1 b2 b3 : Bool, msk (fun c => A.testBit c && !g4 b0 b1 b2 b3 c) 4 ≤ A ∧ (msk (fun c => A.testBit c && !g4 b0 b1 b2 b3 c) 4 = A ∨ popc (msk (fun c => A.testBit c && !g4 b0 b1 b2 b3 c) 4) < popc A) := by decide +kernel
theorem nWor_g (P : Nat → Int32) (A B : Nat) : nWor P A B = msk (fun c => A.testBit c && !g4 (fBet P 0 A B).isSome (fBet P 1 A B).isSome (fBet P 2 A B).isSome (fBet P 3 A B).isSome c) 4 := by
  unfold nWor
  refine msk_congr 4 (fun k hk => ?_)
  rw [← g4_eq (fun c => (fBet P c A B).isSome) k hk]
  cases fBet P k A B <;> rfl
theorem wG_g {P : Nat → Int32} {A B : Nat} : ∀ k, k < 4 → wG P A B k = (fun c => A.testBit c && g4 (fBet P 0 A B).isSome (fBet P 1 A B).isSome (fBet P 2 A B).isSome (fBet P 3 A B).isSome c) k := fun k hk => by
  show _ = (_ && _)
  rw [← g4_eq (fun c => (fBet P c A B).isSome) k hk]
  rfl
theorem dp_end {P : Nat → Int32} {A B : Nat} (hA : A < 16) : dpR A (wG P A B) 4 = nWor P A B := by
  rw [nWor_g, dpR_congr 4 wG_g]
  exact dp_q A hA _ _ _ _
theorem dp_ge {P : Nat → Int32} {A B z : Nat} (hA : A < 16) (hz : z < 4) (hb : A.testBit z = true) : 2 ^ z ≤ dpR A (wG P A B) z := by
  rw [dpR_congr z (fun k hk => wG_g k (by omega))]
  exact dp_q2 A hA _ _ _ _ z hz hb
theorem nWor_le {P : Nat → Int32} {A B : Nat} (hA : A < 16) : nWor P A B ≤ A ∧ (nWor P A B = A ∨ popc (nWor P A B) < popc A) := by
  rw [nWor_g]
  exact dp_q3 A hA _ _ _ _
def drM (O : gO) (D A B k : Nat) : gO := au (au (au O D 6 (.int (nI A))) D 7 (.int (nI B))) D 8 (.int (nI k))
theorem drM_3 (O : gO) (D A B k A' B' k' : Nat) : au (au (au (drM O D A B k) D 8 (.int (nI k'))) D 6 (.int (nI A'))) D 7 (.int (nI B')) = drM O D A' B' k' := by
  unfold drM au
  simp only [gu_eq, gu_gu]
  congr 1
  funext j
  simp only [gu]
  repeat' split
  all_goals first | rfl | omega
theorem drM_f (O : gO) (D A B k : Nat) : drM O D A B k D 6 = .int (nI A) ∧ drM O D A B k D 7 = .int (nI B) ∧ drM O D A B k D 8 = .int (nI k) := by
  unfold drM au
  simp [gu]
theorem isMo_f {T : gTy} {O O' : gO} {h : Nat} (hm : isMo T O h) (hf : ∀ f, f ≠ 6 → f ≠ 7 → f ≠ 8 → O' h f = O h f) : isMo T O' h := by
  unfold isMo at *
  rw [hf 0 (by decide) (by decide) (by decide), hf 1 (by decide) (by decide) (by decide), hf 2 (by decide) (by decide) (by decide), hf 3 (by decide) (by decide) (by decide), hf 4 (by decide) (by decide) (by decide), hf 5 (by decide) (by decide) (by decide), hf 9 (by decide) (by decide) (by decide), hf 10 (by decide) (by decide) (by decide), hf 11 (by decide) (by decide) (by decide), hf 12 (by decide) (by decide) (by decide), hf 13 (by decide) (by decide) (by decide), hf 14 (by decide) (by decide) (by decide), hf 15 (by decide) (by decide) (by decide), hf 16 (by decide) (by decide) (by decide), hf 17 (by decide) (by decide) (by decide), hf 18 (by decide) (by decide) (by decide)]
  exact hm
theorem mo_dr {T : gTy} {O O' : gO} {h A B k : Nat} (hm : isMo T O h) (hO : O' = drM O h A B k) : isMo T O' h := isMo_f hm (fun f h6 h7 h8 => by
  rw [hO]
  unfold drM
  rw [au_row, gu_ne _ _ h8, au_row, gu_ne _ _ h7, au_row, gu_ne _ _ h6])
/-- the dropping goes on from A, B to the end E -/
def drI (P P' : Nat → Int32) (E : Nat × Nat × Nat) (m n f A B k : Nat) (mo : Bool) : Prop := (A < 2 ^ m ∧ B < 2 ^ n ∧ A < 16 ∧ B < 16) ∧ (mo = true → dropF P P' f A B k = E ∧ popc A + popc B ≤ f) ∧ (mo = false → (A, B, k) = E)
theorem drI_stop {P P' : Nat → Int32} {E : Nat × Nat × Nat} {m n f A B k : Nat} (h : drI P P' E m n f A B k true) (h1 : nWor P A B = A) (h2 : nWor P' B A = B) : drI P P' E m n f (nWor P A B) (nWor P' B A) (k + 0) false := by
  obtain ⟨a, b, c⟩ := h
  rw [h1, h2]
  refine ⟨a, fun e => by (cases e), fun _ => ?_⟩
  rw [← (b rfl).1]
  cases f with
  | zero => rfl
  | succ f => unfold dropF; rw [if_pos ⟨h1, h2⟩]; rfl
theorem drI_go {P P' : Nat → Int32} {E : Nat × Nat × Nat} {m n f A B k : Nat} (h : drI P P' E m n f A B k true) (hn : ¬ (nWor P A B = A ∧ nWor P' B A = B)) : 1 ≤ f ∧ drI P P' E m n (f - 1) (nWor P A B) (nWor P' B A) (k + 1) true := by
  obtain ⟨a, b, c⟩ := h
  have q1 := nWor_le (P := P) (B := B) a.2.2.1
  have q2 := nWor_le (P := P') (B := A) a.2.2.2
  obtain ⟨e, l⟩ := b rfl
  have hlt : popc (nWor P A B) + popc (nWor P' B A) < popc A + popc B := by
    rcases q1.2 with r1 | r1 <;> rcases q2.2 with r2 | r2
    · exact absurd ⟨r1, r2⟩ hn
    · rw [r1]; omega
    · rw [r2]; omega
    · omega
  obtain ⟨g, rfl⟩ : ∃ g, f = g + 1 := ⟨f - 1, by omega⟩
  refine ⟨by omega, ⟨by omega, by omega, by omega, by omega⟩, fun _ => ⟨?_, by show _ ≤ g; omega⟩, fun z => by (cases z)⟩
  rw [← e]
  show dropF P P' g _ _ _ = dropF P P' (g + 1) A B k
  rw [dropF, if_neg hn]
theorem drI_0 {P P' : Nat → Int32} {m n : Nat} (hm : 1 ≤ m ∧ m ≤ 4) (hn : 1 ≤ n ∧ n ≤ 4) : drI P P' (dropF P P' 8 (2 ^ m - 1) (2 ^ n - 1) 0) m n 8 (2 ^ m - 1) (2 ^ n - 1) 0 true := by
  have q : ∀ m, m ≤ 4 → 2 ^ m - 1 < 2 ^ m ∧ 2 ^ m - 1 < 16 ∧ popc (2 ^ m - 1) ≤ 4 := by decide
  have a := q m hm.2
  have b := q n hn.2
  exact ⟨⟨a.1, b.1, a.2.1, b.2.1⟩, fun _ => ⟨rfl, by omega⟩, fun z => by (cases z)⟩
set_option maxHeartbeats 4000000 in
set_option maxRecDepth 100000 in
theorem c_X5_drop (l : Launch) {G : gG} {T : gTy} {I : gI} {J : gJ} {Q : gR} {O : gO} {H : Heap} (hP : gP G T I J Q O H) {h : Nat} {st : GS} (hm : isMo T O h) (hs0 : moS I h st) : Met l yX5_drop (gw yX5_drop cX5_drop 6 (none)) ({ frames := 2, cells := 0, slots := 0, locals := 50 } : Room) (gPc G H [.ref h]) (gQc (gF T H) (fun r H1 => r = none ∧ gP G T I J Q (drM O h (gsDr st).1 (gsDr st).2.1 (gsDr st).2.2) H1)) 0 0 (gF T H) := by
  refine g_met [(0, .ref h)] (by decide) rfl (by exact Nat.le_of_ble_eq_true rfl) ?_
  intro p e s m below meth c hC hs ls hl
  have hx := hC.1.1
  have hb := hC.1.2.1
  have hS : va_S (gF T H) s.heap H [] := hs ▸ va_S.rf
  have hTA : ∀ q, (T q).1 ≠ 0 → gF T H q := fun q h => Or.inl h
  have hA : ∀ q, s.heap.size ≤ q → gF T H q := fun q h => Or.inr (hs ▸ h)
  generalize hAe : gF T H = A at hS hTA hA ⊢
  have hms := hs0.1
  have hns := hs0.2.1
  refine lv_aload_n hx hb dX5_drop_0 rfl (lv_at hl 0 rfl) ?_
  refine lv_iconst (v := nI 1) hx hb dX5_drop_1 (by decide) ?_
  refine lv_aload_n hx hb dX5_drop_2 rfl (lv_at hl 0 rfl) ?_
  refine g_get hC hP hm.1 rfl inX5 0 (by decide) q3_6 hm.2.1.1 dX5_drop_3 ?_
  refine lv_iconst (v := nI 0) hx hb dX5_drop_6 (by decide) ?_
  refine g_iald hC hP hm.2.1.2 (vp_in_nI (by omega) (by decide)) dX5_drop_7 ?_
  refine g_topi (y := nI (gsm st)) hs0.2.2.1 ?_
  refine lv_ishl hx hb dX5_drop_8 ?_
  refine g_topi (y := nI (2 ^ (gsm st))) (g_shl (by omega)) ?_
  refine lv_iconst (v := nI 1) hx hb dX5_drop_9 (by decide) ?_
  refine lv_isub hx hb dX5_drop_10 ?_
  refine g_topi (y := nI (2 ^ gsm st - 1)) (nI_subn Nat.one_le_two_pow) ?_
  refine g_put hC hP hS hTA hm.1 rfl inX5 tyX5 tyX5_ok nmX5 6 (by decide) q3_12 rfl (ty := tyX5 6) (by decide) rfl rfl dX5_drop_11 (fun H1 locs2 hP hS hz4 => ?_)
  obtain ⟨O3, hO3, hP⟩ : ∃ X : gO, X = au O h 6 (.int (nI (2 ^ gsm st - 1))) ∧ gP G T I J Q X H1 := ⟨_, rfl, hP⟩
  refine lv_aload_n hx hb dX5_drop_14 rfl (lv_at hl 0 rfl) ?_
  refine lv_iconst (v := nI 1) hx hb dX5_drop_15 (by decide) ?_
  refine lv_aload_n hx hb dX5_drop_16 rfl (lv_at hl 0 rfl) ?_
  have ho5 : O3 h 0 = .ref (h + 1) := by rw [hO3, au_row, gu_ne _ _ (by decide)]; exact hm.2.1.1
  refine g_get hC hP hm.1 rfl inX5 0 (by decide) q3_6 ho5 dX5_drop_17 ?_
  refine lv_iconst (v := nI 1) hx hb dX5_drop_20 (by decide) ?_
  refine g_iald hC hP hm.2.1.2 (vp_in_nI (by omega) (by decide)) dX5_drop_21 ?_
  refine g_topi (y := nI (gsn st)) hs0.2.2.2.1 ?_
  refine lv_ishl hx hb dX5_drop_22 ?_
  refine g_topi (y := nI (2 ^ (gsn st))) (g_shl (by omega)) ?_
  refine lv_iconst (v := nI 1) hx hb dX5_drop_23 (by decide) ?_
  refine lv_isub hx hb dX5_drop_24 ?_
  refine g_topi (y := nI (2 ^ gsn st - 1)) (nI_subn Nat.one_le_two_pow) ?_
  refine g_put hC hP hS hTA hm.1 rfl inX5 tyX5 tyX5_ok nmX5 7 (by decide) q3_13 rfl (ty := tyX5 7) (by decide) rfl rfl dX5_drop_25 (fun H6 locs7 hP hS hz9 => ?_)
  obtain ⟨O8, hO8, hP⟩ : ∃ X : gO, X = au O3 h 7 (.int (nI (2 ^ gsn st - 1))) ∧ gP G T I J Q X H6 := ⟨_, rfl, hP⟩
  refine lv_aload_n hx hb dX5_drop_28 rfl (lv_at hl 0 rfl) ?_
  refine lv_iconst (v := nI 0) hx hb dX5_drop_29 (by decide) ?_
  refine g_put hC hP hS hTA hm.1 rfl inX5 tyX5 tyX5_ok nmX5 8 (by decide) q3_14 rfl (ty := tyX5 8) (by decide) rfl rfl dX5_drop_30 (fun H10 locs11 hP hS hz13 => ?_)
  obtain ⟨O12, hO12, hP⟩ : ∃ X : gO, X = au O8 h 8 (.int (nI 0)) ∧ gP G T I J Q X H10 := ⟨_, rfl, hP⟩
  refine lv_iconst (v := nI 1) hx hb dX5_drop_33 (by decide) ?_
  refine lv_istore_n (lv' := [(1, .int (nI 1)), (0, .ref h)]) hx hb dX5_drop_34 rfl hl (by decide) rfl (fun ls hl => ?_)
  have L35 : ∀ (n35 : Nat) (Aa : Nat) (Bb : Nat) (k : Nat) (f : Nat) (g : Nat) (mo : Bool) (O9 : gO), g ≤ n35 → (O9 = drM O h Aa Bb k) → (drI (gsP0 st) (gsP1 st) (gsDr st) (gsm st) (gsn st) f Aa Bb k mo) → (mo = true → f + 2 ≤ g) → (1 ≤ g) → ∀ (Hl : Heap) (lcl : List Loc), gP G T I J Q O9 Hl → va_S A s.heap Hl lcl → ∀ ls : Array Slot, lv_has ls 6 [(0, .ref h), (1, .int (gb mo))] → W p l e ({ frames := 2, cells := 0, slots := 0, locals := 50 } : Room) s m [.ref h].toArray below meth c Hl lcl 0 0 (MQ below (gQc A (fun r H1 => r = none ∧ gP G T I J Q (drM O h (gsDr st).1 (gsDr st).2.1 (gsDr st).2.2) H1)) [.ref h].toArray s 0 0 A) (F0 m 35 ls []) := by
    intro n35
    induction n35 with
    | zero => intro Aa Bb k f g mo O9 hn35 h0 hI hg hg1; exact absurd hn35 (by omega)
    | succ n35 ih35 =>
      intro Aa Bb k f g mo O9 hn35 h0 hI hg hg1 Hl lcl hP hS ls hl
      have hm9 : isMo T O9 h := mo_dr hm h0
      have f9 : O9 h 6 = .int (nI Aa) ∧ O9 h 7 = .int (nI Bb) ∧ O9 h 8 = .int (nI k) := by rw [h0]; exact drM_f O h Aa Bb k
      have hA2 := hI.1.1
      have hB2 := hI.1.2.1
      have hA := hI.1.2.2.1
      have hB := hI.1.2.2.2
      refine lv_iload_n hx hb dX5_drop_35 rfl (lv_at hl 1 rfl) ?_
      refine lv_if_eq (tgt := 225) hx hb dX5_drop_36 (by decide) (fun c36 => ?_) (fun c36 => ?_)
      · have c36 := gb_f c36
        refine g_retcv hC hS ?_ dX5_drop_225
        refine ⟨rfl, ?_⟩
        have e := hI.2.2 c36
        rw [← e]
        rw [h0] at hP
        exact hP
      · have c36 := gb_t c36
        refine lv_aload_n hx hb dX5_drop_39 rfl (lv_at hl 0 rfl) ?_
        refine g_get hC hP hm.1 rfl inX5 6 (by decide) q3_12 (f9.1) dX5_drop_40 ?_
        refine lv_istore_n (lv' := [(2, .int (nI Aa)), (0, .ref h), (1, .int (gb mo))]) hx hb dX5_drop_43 rfl hl (by decide) rfl (fun ls hl => ?_)
        refine lv_aload_n hx hb dX5_drop_44 rfl (lv_at hl 1 rfl) ?_
        refine g_get hC hP hm.1 rfl inX5 7 (by decide) q3_13 (f9.2.1) dX5_drop_45 ?_
        refine lv_istore_n (lv' := [(3, .int (nI Bb)), (2, .int (nI Aa)), (0, .ref h), (1, .int (gb mo))]) hx hb dX5_drop_48 rfl hl (by decide) rfl (fun ls hl => ?_)
        refine lv_iconst (v := nI 0) hx hb dX5_drop_49 (by decide) ?_
        refine lv_istore (lv' := [(4, .int (nI 0)), (3, .int (nI Bb)), (2, .int (nI Aa)), (0, .ref h), (1, .int (gb mo))]) hx hb dX5_drop_50 hl (by decide) rfl (fun ls hl => ?_)
        have L52 : ∀ (n52 : Nat) (x : Nat) (y : Nat) (z : Nat), 5 ≤ n52 + z → (z ≤ 4) → (x = dpR Aa (wG (gsP0 st) Aa Bb) z) → (y = dpR Bb (wG (gsP1 st) Bb Aa) z) → ∀ (Hl : Heap) (lcl : List Loc), gP G T I J Q O9 Hl → va_S A s.heap Hl lcl → ∀ ls : Array Slot, lv_has ls 6 [(0, .ref h), (2, .int (nI x)), (3, .int (nI y)), (4, .int (nI z))] → W p l e ({ frames := 2, cells := 0, slots := 0, locals := 50 } : Room) s m [.ref h].toArray below meth c Hl lcl 0 0 (MQ below (gQc A (fun r H1 => r = none ∧ gP G T I J Q (drM O h (gsDr st).1 (gsDr st).2.1 (gsDr st).2.2) H1)) [.ref h].toArray s 0 0 A) (F0 m 52 ls []) := by
          intro n52
          induction n52 with
          | zero => intro x y z hn52 hz h1 h2; exact absurd hn52 (by omega)
          | succ n52 ih52 =>
            intro x y z hn52 hz h1 h2 Hl lcl hP hS ls hl
            have lx := dpR_le Aa (wG (gsP0 st) Aa Bb) z
            have ly := dpR_le Bb (wG (gsP1 st) Bb Aa) z
            rw [← h1] at lx
            rw [← h2] at ly
            refine lv_iload hx hb dX5_drop_52 (lv_at hl 3 rfl) ?_
            refine lv_iconst (v := nI 4) hx hb dX5_drop_54 (by decide) ?_
            refine lv_icmp_ge (tgt := 172) hx hb dX5_drop_55 (by decide) (fun c55 => ?_) (fun c55 => ?_)
            · have c55 := (nI_leI (by omega) (by omega)).mp c55
              refine lv_iload_n hx hb dX5_drop_172 rfl (lv_at hl 1 rfl) ?_
              refine lv_aload_n hx hb dX5_drop_173 rfl (lv_at hl 0 rfl) ?_
              refine g_get hC hP hm.1 rfl inX5 6 (by decide) q3_12 (f9.1) dX5_drop_174 ?_
              refine lv_icmp_ne (tgt := 188) hx hb dX5_drop_177 (by decide) (fun c177 => ?_) (fun c177 => ?_)
              · have c177 := mt (nI_eq (by omega) (by omega)).mpr c177
                refine lv_iconst (v := nI 1) hx hb dX5_drop_188 (by decide) ?_
                refine lv_goto (tgt := 193) hx hb dX5_drop_189 (by decide) ?_
                refine lv_istore_n (lv' := [(1, .int (nI 1)), (0, .ref h), (2, .int (nI x)), (3, .int (nI y)), (4, .int (nI z))]) hx hb dX5_drop_193 rfl hl (by decide) rfl (fun ls hl => ?_)
                refine lv_aload_n hx hb dX5_drop_194 rfl (lv_at hl 1 rfl) ?_
                refine lv_dup hx hb dX5_drop_195 rfl ?_
                refine g_get hC hP hm.1 rfl inX5 8 (by decide) q3_14 (f9.2.2) dX5_drop_196 ?_
                refine lv_iload_n hx hb dX5_drop_199 rfl (lv_at hl 0 rfl) ?_
                refine lv_if_eq (tgt := 207) hx hb dX5_drop_200 (by decide) (fun q => absurd q (by decide)) (fun _ => ?_)
                refine lv_iconst (v := nI 1) hx hb dX5_drop_203 (by decide) ?_
                refine lv_goto (tgt := 208) hx hb dX5_drop_204 (by decide) ?_
                refine lv_iadd hx hb dX5_drop_208 ?_
                refine g_topi (y := nI (k + 1)) (nI_add _ _) ?_
                refine g_put hC hP hS hTA hm.1 rfl inX5 tyX5 tyX5_ok nmX5 8 (by decide) q3_14 rfl (ty := tyX5 8) (by decide) rfl rfl dX5_drop_209 (fun H14 locs15 hP hS hz17 => ?_)
                obtain ⟨O16, hO16, hP⟩ : ∃ X : gO, X = au O9 h 8 (.int (nI (k + 1))) ∧ gP G T I J Q X H14 := ⟨_, rfl, hP⟩
                refine lv_aload_n hx hb dX5_drop_212 rfl (lv_at hl 1 rfl) ?_
                refine lv_iload_n hx hb dX5_drop_213 rfl (lv_at hl 2 rfl) ?_
                refine g_put hC hP hS hTA hm.1 rfl inX5 tyX5 tyX5_ok nmX5 6 (by decide) q3_12 rfl (ty := tyX5 6) (by decide) rfl rfl dX5_drop_214 (fun H18 locs19 hP hS hz21 => ?_)
                obtain ⟨O20, hO20, hP⟩ : ∃ X : gO, X = au O16 h 6 (.int (nI x)) ∧ gP G T I J Q X H18 := ⟨_, rfl, hP⟩
                refine lv_aload_n hx hb dX5_drop_217 rfl (lv_at hl 1 rfl) ?_
                refine lv_iload_n hx hb dX5_drop_218 rfl (lv_at hl 3 rfl) ?_
                refine g_put hC hP hS hTA hm.1 rfl inX5 tyX5 tyX5_ok nmX5 7 (by decide) q3_13 rfl (ty := tyX5 7) (by decide) rfl rfl dX5_drop_219 (fun H22 locs23 hP hS hz25 => ?_)
                obtain ⟨O24, hO24, hP⟩ : ∃ X : gO, X = au O20 h 7 (.int (nI y)) ∧ gP G T I J Q X H22 := ⟨_, rfl, hP⟩
                have hfin : O24 = drM O h x y (k + 1) := by rw [hO24, hO20, hO16, h0]; exact drM_3 _ _ _ _ _ _ _ _
                refine lv_goto (tgt := 35) hx hb dX5_drop_222 (by decide) ?_
                have e1 : x = nWor (gsP0 st) Aa Bb := by rw [h1, show z = 4 from by omega]; exact dp_end hA
                have e2 : y = nWor (gsP1 st) Bb Aa := by rw [h2, show z = 4 from by omega]; exact dp_end hB
                rw [c36] at hI hg
                exact ih35 x y (k + 1) (f - 1) (g - 1) true O24 (by omega) hfin (by rw [e1, e2]; first | exact drI_stop hI (by omega) (by omega) | exact (drI_go hI (by omega)).2) (by first | (intro e; exact absurd e (by decide)) | (intro _; have := hg rfl; have := (drI_go hI (by omega)).1; omega)) (by have := hg rfl; omega) _ _ hP hS ls (lv_sub hl [1, 0] rfl)
              · have c177 := (nI_eq (by omega) (by omega)).mp c177
                refine lv_iload_n hx hb dX5_drop_180 rfl (lv_at hl 2 rfl) ?_
                refine lv_aload_n hx hb dX5_drop_181 rfl (lv_at hl 0 rfl) ?_
                refine g_get hC hP hm.1 rfl inX5 7 (by decide) q3_13 (f9.2.1) dX5_drop_182 ?_
                refine lv_icmp_eq (tgt := 192) hx hb dX5_drop_185 (by decide) (fun c185 => ?_) (fun c185 => ?_)
                · have c185 := (nI_eq (by omega) (by omega)).mp c185
                  refine lv_iconst (v := nI 0) hx hb dX5_drop_192 (by decide) ?_
                  refine lv_istore_n (lv' := [(1, .int (nI 0)), (0, .ref h), (2, .int (nI x)), (3, .int (nI y)), (4, .int (nI z))]) hx hb dX5_drop_193 rfl hl (by decide) rfl (fun ls hl => ?_)
                  refine lv_aload_n hx hb dX5_drop_194 rfl (lv_at hl 1 rfl) ?_
                  refine lv_dup hx hb dX5_drop_195 rfl ?_
                  refine g_get hC hP hm.1 rfl inX5 8 (by decide) q3_14 (f9.2.2) dX5_drop_196 ?_
                  refine lv_iload_n hx hb dX5_drop_199 rfl (lv_at hl 0 rfl) ?_
                  refine lv_if_eq (tgt := 207) hx hb dX5_drop_200 (by decide) (fun _ => ?_) (fun q => absurd (by decide) q)
                  refine lv_iconst (v := nI 0) hx hb dX5_drop_207 (by decide) ?_
                  refine lv_iadd hx hb dX5_drop_208 ?_
                  refine g_topi (y := nI (k + 0)) (nI_add _ _) ?_
                  refine g_put hC hP hS hTA hm.1 rfl inX5 tyX5 tyX5_ok nmX5 8 (by decide) q3_14 rfl (ty := tyX5 8) (by decide) rfl rfl dX5_drop_209 (fun H26 locs27 hP hS hz29 => ?_)
                  obtain ⟨O28, hO28, hP⟩ : ∃ X : gO, X = au O9 h 8 (.int (nI (k + 0))) ∧ gP G T I J Q X H26 := ⟨_, rfl, hP⟩
                  refine lv_aload_n hx hb dX5_drop_212 rfl (lv_at hl 1 rfl) ?_
                  refine lv_iload_n hx hb dX5_drop_213 rfl (lv_at hl 2 rfl) ?_
                  refine g_put hC hP hS hTA hm.1 rfl inX5 tyX5 tyX5_ok nmX5 6 (by decide) q3_12 rfl (ty := tyX5 6) (by decide) rfl rfl dX5_drop_214 (fun H30 locs31 hP hS hz33 => ?_)
                  obtain ⟨O32, hO32, hP⟩ : ∃ X : gO, X = au O28 h 6 (.int (nI x)) ∧ gP G T I J Q X H30 := ⟨_, rfl, hP⟩
                  refine lv_aload_n hx hb dX5_drop_217 rfl (lv_at hl 1 rfl) ?_
                  refine lv_iload_n hx hb dX5_drop_218 rfl (lv_at hl 3 rfl) ?_
                  refine g_put hC hP hS hTA hm.1 rfl inX5 tyX5 tyX5_ok nmX5 7 (by decide) q3_13 rfl (ty := tyX5 7) (by decide) rfl rfl dX5_drop_219 (fun H34 locs35 hP hS hz37 => ?_)
                  obtain ⟨O36, hO36, hP⟩ : ∃ X : gO, X = au O32 h 7 (.int (nI y)) ∧ gP G T I J Q X H34 := ⟨_, rfl, hP⟩
                  have hfin : O36 = drM O h x y (k + 0) := by rw [hO36, hO32, hO28, h0]; exact drM_3 _ _ _ _ _ _ _ _
                  refine lv_goto (tgt := 35) hx hb dX5_drop_222 (by decide) ?_
                  have e1 : x = nWor (gsP0 st) Aa Bb := by rw [h1, show z = 4 from by omega]; exact dp_end hA
                  have e2 : y = nWor (gsP1 st) Bb Aa := by rw [h2, show z = 4 from by omega]; exact dp_end hB
                  rw [c36] at hI hg
                  exact ih35 x y (k + 0) f (g - 1) false O36 (by omega) hfin (by rw [e1, e2]; first | exact drI_stop hI (by omega) (by omega) | exact (drI_go hI (by omega)).2) (by first | (intro e; exact absurd e (by decide)) | (intro _; have := hg rfl; have := (drI_go hI (by omega)).1; omega)) (by have := hg rfl; omega) _ _ hP hS ls (lv_sub hl [1, 0] rfl)
                · have c185 := mt (nI_eq (by omega) (by omega)).mpr c185
                  refine lv_iconst (v := nI 1) hx hb dX5_drop_188 (by decide) ?_
                  refine lv_goto (tgt := 193) hx hb dX5_drop_189 (by decide) ?_
                  refine lv_istore_n (lv' := [(1, .int (nI 1)), (0, .ref h), (2, .int (nI x)), (3, .int (nI y)), (4, .int (nI z))]) hx hb dX5_drop_193 rfl hl (by decide) rfl (fun ls hl => ?_)
                  refine lv_aload_n hx hb dX5_drop_194 rfl (lv_at hl 1 rfl) ?_
                  refine lv_dup hx hb dX5_drop_195 rfl ?_
                  refine g_get hC hP hm.1 rfl inX5 8 (by decide) q3_14 (f9.2.2) dX5_drop_196 ?_
                  refine lv_iload_n hx hb dX5_drop_199 rfl (lv_at hl 0 rfl) ?_
                  refine lv_if_eq (tgt := 207) hx hb dX5_drop_200 (by decide) (fun q => absurd q (by decide)) (fun _ => ?_)
                  refine lv_iconst (v := nI 1) hx hb dX5_drop_203 (by decide) ?_
                  refine lv_goto (tgt := 208) hx hb dX5_drop_204 (by decide) ?_
                  refine lv_iadd hx hb dX5_drop_208 ?_
                  refine g_topi (y := nI (k + 1)) (nI_add _ _) ?_
                  refine g_put hC hP hS hTA hm.1 rfl inX5 tyX5 tyX5_ok nmX5 8 (by decide) q3_14 rfl (ty := tyX5 8) (by decide) rfl rfl dX5_drop_209 (fun H38 locs39 hP hS hz41 => ?_)
                  obtain ⟨O40, hO40, hP⟩ : ∃ X : gO, X = au O9 h 8 (.int (nI (k + 1))) ∧ gP G T I J Q X H38 := ⟨_, rfl, hP⟩
                  refine lv_aload_n hx hb dX5_drop_212 rfl (lv_at hl 1 rfl) ?_
                  refine lv_iload_n hx hb dX5_drop_213 rfl (lv_at hl 2 rfl) ?_
                  refine g_put hC hP hS hTA hm.1 rfl inX5 tyX5 tyX5_ok nmX5 6 (by decide) q3_12 rfl (ty := tyX5 6) (by decide) rfl rfl dX5_drop_214 (fun H42 locs43 hP hS hz45 => ?_)
                  obtain ⟨O44, hO44, hP⟩ : ∃ X : gO, X = au O40 h 6 (.int (nI x)) ∧ gP G T I J Q X H42 := ⟨_, rfl, hP⟩
                  refine lv_aload_n hx hb dX5_drop_217 rfl (lv_at hl 1 rfl) ?_
                  refine lv_iload_n hx hb dX5_drop_218 rfl (lv_at hl 3 rfl) ?_
                  refine g_put hC hP hS hTA hm.1 rfl inX5 tyX5 tyX5_ok nmX5 7 (by decide) q3_13 rfl (ty := tyX5 7) (by decide) rfl rfl dX5_drop_219 (fun H46 locs47 hP hS hz49 => ?_)
                  obtain ⟨O48, hO48, hP⟩ : ∃ X : gO, X = au O44 h 7 (.int (nI y)) ∧ gP G T I J Q X H46 := ⟨_, rfl, hP⟩
                  have hfin : O48 = drM O h x y (k + 1) := by rw [hO48, hO44, hO40, h0]; exact drM_3 _ _ _ _ _ _ _ _
                  refine lv_goto (tgt := 35) hx hb dX5_drop_222 (by decide) ?_
                  have e1 : x = nWor (gsP0 st) Aa Bb := by rw [h1, show z = 4 from by omega]; exact dp_end hA
                  have e2 : y = nWor (gsP1 st) Bb Aa := by rw [h2, show z = 4 from by omega]; exact dp_end hB
                  rw [c36] at hI hg
                  exact ih35 x y (k + 1) (f - 1) (g - 1) true O48 (by omega) hfin (by rw [e1, e2]; first | exact drI_stop hI (by omega) (by omega) | exact (drI_go hI (by omega)).2) (by first | (intro e; exact absurd e (by decide)) | (intro _; have := hg rfl; have := (drI_go hI (by omega)).1; omega)) (by have := hg rfl; omega) _ _ hP hS ls (lv_sub hl [1, 0] rfl)
            · have c55 := mt (nI_leI (by omega) (by omega)).mpr c55
              refine lv_aload_n hx hb dX5_drop_58 rfl (lv_at hl 0 rfl) ?_
              refine g_get hC hP hm.1 rfl inX5 6 (by decide) q3_12 (f9.1) dX5_drop_59 ?_
              refine lv_iload hx hb dX5_drop_62 (lv_at hl 3 rfl) ?_
              refine lv_ishr hx hb dX5_drop_64 ?_
              refine lv_iconst (v := nI 1) hx hb dX5_drop_65 (by decide) ?_
              refine lv_iand hx hb dX5_drop_66 ?_
              refine g_topi (y := nI (if Aa.testBit z then 1 else 0)) (g_bit hA (by omega)) ?_
              refine lv_iconst (v := nI 1) hx hb dX5_drop_67 (by decide) ?_
              refine lv_icmp_ne (tgt := 93) hx hb dX5_drop_68 (by decide) (fun c68 => ?_) (fun c68 => ?_)
              · have c68 : Aa.testBit z = false := by by_cases h : Aa.testBit z = true <;> simp_all
                have w86 : wG (gsP0 st) Aa Bb z = false := by unfold wG; rw [c68]; rfl
                refine lv_iconst (v := nI 0) hx hb dX5_drop_93 (by decide) ?_
                refine lv_istore (lv' := [(5, .int (nI 0)), (0, .ref h), (2, .int (nI x)), (3, .int (nI y)), (4, .int (nI z))]) hx hb dX5_drop_94 hl (by decide) rfl (fun ls hl => ?_)
                refine lv_iload_n hx hb dX5_drop_96 rfl (lv_at hl 2 rfl) ?_
                refine lv_iload hx hb dX5_drop_97 (lv_at hl 0 rfl) ?_
                refine lv_if_eq (tgt := 109) hx hb dX5_drop_99 (by decide) (fun _ => ?_) (fun q => absurd (by decide) q)
                refine lv_iconst (v := nI 0) hx hb dX5_drop_109 (by decide) ?_
                refine lv_isub hx hb dX5_drop_110 ?_
                refine g_topi (y := nI (x - 0)) (nI_subn (by omega)) ?_
                refine lv_istore_n (lv' := [(2, .int (nI (x - 0))), (5, .int (nI 0)), (0, .ref h), (3, .int (nI y)), (4, .int (nI z))]) hx hb dX5_drop_111 rfl hl (by decide) rfl (fun ls hl => ?_)
                refine lv_aload_n hx hb dX5_drop_112 rfl (lv_at hl 2 rfl) ?_
                refine g_get hC hP hm.1 rfl inX5 7 (by decide) q3_13 (f9.2.1) dX5_drop_113 ?_
                refine lv_iload hx hb dX5_drop_116 (lv_at hl 4 rfl) ?_
                refine lv_ishr hx hb dX5_drop_118 ?_
                refine lv_iconst (v := nI 1) hx hb dX5_drop_119 (by decide) ?_
                refine lv_iand hx hb dX5_drop_120 ?_
                refine g_topi (y := nI (if Bb.testBit z then 1 else 0)) (g_bit hB (by omega)) ?_
                refine lv_iconst (v := nI 1) hx hb dX5_drop_121 (by decide) ?_
                refine lv_icmp_ne (tgt := 147) hx hb dX5_drop_122 (by decide) (fun c122 => ?_) (fun c122 => ?_)
                · have c122 : Bb.testBit z = false := by by_cases h : Bb.testBit z = true <;> simp_all
                  have w140 : wG (gsP1 st) Bb Aa z = false := by unfold wG; rw [c122]; rfl
                  refine lv_iconst (v := nI 0) hx hb dX5_drop_147 (by decide) ?_
                  refine lv_istore (lv' := [(5, .int (nI 0)), (2, .int (nI (x - 0))), (0, .ref h), (3, .int (nI y)), (4, .int (nI z))]) hx hb dX5_drop_148 hl (by decide) rfl (fun ls hl => ?_)
                  refine lv_iload_n hx hb dX5_drop_150 rfl (lv_at hl 3 rfl) ?_
                  refine lv_iload hx hb dX5_drop_151 (lv_at hl 0 rfl) ?_
                  refine lv_if_eq (tgt := 163) hx hb dX5_drop_153 (by decide) (fun _ => ?_) (fun q => absurd (by decide) q)
                  refine lv_iconst (v := nI 0) hx hb dX5_drop_163 (by decide) ?_
                  refine lv_isub hx hb dX5_drop_164 ?_
                  refine g_topi (y := nI (y - 0)) (nI_subn (by omega)) ?_
                  refine lv_istore_n (lv' := [(3, .int (nI (y - 0))), (5, .int (nI 0)), (2, .int (nI (x - 0))), (0, .ref h), (4, .int (nI z))]) hx hb dX5_drop_165 rfl hl (by decide) rfl (fun ls hl => ?_)
                  refine lv_iinc (v := nI (z + 1)) (lv' := [(4, .int (nI (z + 1))), (3, .int (nI (y - 0))), (5, .int (nI 0)), (2, .int (nI (x - 0))), (0, .ref h)]) hx hb dX5_drop_166 hl (k := 4) rfl (nI_inc _) (by decide) rfl (fun ls hl => ?_)
                  refine lv_goto (tgt := 52) hx hb dX5_drop_169 (by decide) ?_
                  exact ih52 (x - 0) (y - 0) (z + 1) (by omega) (by omega) (by show _ = dpR _ (wG (gsP0 st) Aa Bb) z - (if (wG (gsP0 st) Aa Bb) z then 2 ^ z else 0); rw [← h1]; first | rw [if_pos w86] | (rw [if_neg (by rw [w86]; decide)])) (by show _ = dpR _ (wG (gsP1 st) Bb Aa) z - (if (wG (gsP1 st) Bb Aa) z then 2 ^ z else 0); rw [← h2]; first | rw [if_pos w140] | (rw [if_neg (by rw [w140]; decide)])) _ _ hP hS ls (lv_sub hl [4, 3, 1, 0] rfl)
                · have c122 : Bb.testBit z = true := by by_cases h : Bb.testBit z = true <;> simp_all [nI]
                  refine lv_aload_n hx hb dX5_drop_125 rfl (lv_at hl 2 rfl) ?_
                  refine lv_iconst (v := nI 1) hx hb dX5_drop_126 (by decide) ?_
                  refine lv_iload hx hb dX5_drop_127 (lv_at hl 4 rfl) ?_
                  refine lv_aload_n hx hb dX5_drop_129 rfl (lv_at hl 2 rfl) ?_
                  refine g_get hC hP hm.1 rfl inX5 7 (by decide) q3_13 (f9.2.1) dX5_drop_130 ?_
                  refine lv_aload_n hx hb dX5_drop_133 rfl (lv_at hl 2 rfl) ?_
                  refine g_get hC hP hm.1 rfl inX5 6 (by decide) q3_12 (f9.1) dX5_drop_134 ?_
                  refine g_cp (g_rV (As := [.int (nI 1), .int (nI z), .int (nI Bb), .int (nI Aa)]) hC hP (c_X5_worseBy_1 l hP (h := h) (ci := z) (A9 := Bb) (B9 := Aa) (by first | assumption | omega) (by first | assumption | omega) (by first | assumption | omega) (by first | assumption | omega) (by first | assumption | omega)) hm.1 rfl ⟨q3_159, q3_156, q3_158, qs_36, q1_6⟩ dd_X5_worseBy ⟨Nat.le_of_ble_eq_true rfl, Nat.le_of_ble_eq_true rfl, rfl, rfl⟩ hl.1 rfl (Nat.le_of_ble_eq_true rfl) dX5_drop_137 ⟨Nat.le_of_ble_eq_true rfl, Nat.le_of_ble_eq_true rfl⟩) ?_
                  refine W.eq (g2 := F0 m 140 ls [.int (oI (fstN (wM (gsP1 st) z Bb Aa (gsm st)) (gsn st)))]) rfl ?_
                  refine lv_if_lt (tgt := 147) hx hb dX5_drop_140 (by decide) (fun c140 => ?_) (fun c140 => ?_)
                  · have c140 := (oI_lt0 (fun k hk => Nat.lt_trans (fstN_lt hk).1 (by omega))).mp c140
                    rw [worse_eq2 hB2 hA2 (by omega) (by omega)] at c140
                    have w140 : wG (gsP1 st) Bb Aa z = false := by unfold wG; rw [c122, c140]; rfl
                    refine lv_iconst (v := nI 0) hx hb dX5_drop_147 (by decide) ?_
                    refine lv_istore (lv' := [(5, .int (nI 0)), (2, .int (nI (x - 0))), (0, .ref h), (3, .int (nI y)), (4, .int (nI z))]) hx hb dX5_drop_148 hl (by decide) rfl (fun ls hl => ?_)
                    refine lv_iload_n hx hb dX5_drop_150 rfl (lv_at hl 3 rfl) ?_
                    refine lv_iload hx hb dX5_drop_151 (lv_at hl 0 rfl) ?_
                    refine lv_if_eq (tgt := 163) hx hb dX5_drop_153 (by decide) (fun _ => ?_) (fun q => absurd (by decide) q)
                    refine lv_iconst (v := nI 0) hx hb dX5_drop_163 (by decide) ?_
                    refine lv_isub hx hb dX5_drop_164 ?_
                    refine g_topi (y := nI (y - 0)) (nI_subn (by omega)) ?_
                    refine lv_istore_n (lv' := [(3, .int (nI (y - 0))), (5, .int (nI 0)), (2, .int (nI (x - 0))), (0, .ref h), (4, .int (nI z))]) hx hb dX5_drop_165 rfl hl (by decide) rfl (fun ls hl => ?_)
                    refine lv_iinc (v := nI (z + 1)) (lv' := [(4, .int (nI (z + 1))), (3, .int (nI (y - 0))), (5, .int (nI 0)), (2, .int (nI (x - 0))), (0, .ref h)]) hx hb dX5_drop_166 hl (k := 4) rfl (nI_inc _) (by decide) rfl (fun ls hl => ?_)
                    refine lv_goto (tgt := 52) hx hb dX5_drop_169 (by decide) ?_
                    exact ih52 (x - 0) (y - 0) (z + 1) (by omega) (by omega) (by show _ = dpR _ (wG (gsP0 st) Aa Bb) z - (if (wG (gsP0 st) Aa Bb) z then 2 ^ z else 0); rw [← h1]; first | rw [if_pos w86] | (rw [if_neg (by rw [w86]; decide)])) (by show _ = dpR _ (wG (gsP1 st) Bb Aa) z - (if (wG (gsP1 st) Bb Aa) z then 2 ^ z else 0); rw [← h2]; first | rw [if_pos w140] | (rw [if_neg (by rw [w140]; decide)])) _ _ hP hS ls (lv_sub hl [4, 3, 1, 0] rfl)
                  · have c140 := mt (oI_lt0 (fun k hk => Nat.lt_trans (fstN_lt hk).1 (by omega))).mpr c140
                    rw [worse_eq2 hB2 hA2 (by omega) (by omega)] at c140
                    have w140 : wG (gsP1 st) Bb Aa z = true := by unfold wG; rw [c122]; cases e : fBet (gsP1 st) z Bb Aa; (exact absurd e c140); rfl
                    have l140 := dp_ge (P := gsP1 st) (B := Aa) (z := z) hB (by omega) c122
                    rw [← h2] at l140
                    refine lv_iconst (v := nI 1) hx hb dX5_drop_143 (by decide) ?_
                    refine lv_goto (tgt := 148) hx hb dX5_drop_144 (by decide) ?_
                    refine lv_istore (lv' := [(5, .int (nI 1)), (2, .int (nI (x - 0))), (0, .ref h), (3, .int (nI y)), (4, .int (nI z))]) hx hb dX5_drop_148 hl (by decide) rfl (fun ls hl => ?_)
                    refine lv_iload_n hx hb dX5_drop_150 rfl (lv_at hl 3 rfl) ?_
                    refine lv_iload hx hb dX5_drop_151 (lv_at hl 0 rfl) ?_
                    refine lv_if_eq (tgt := 163) hx hb dX5_drop_153 (by decide) (fun q => absurd q (by decide)) (fun _ => ?_)
                    refine lv_iconst (v := nI 1) hx hb dX5_drop_156 (by decide) ?_
                    refine lv_iload hx hb dX5_drop_157 (lv_at hl 4 rfl) ?_
                    refine lv_ishl hx hb dX5_drop_159 ?_
                    refine g_topi (y := nI (2 ^ z)) (g_shl (by omega)) ?_
                    refine lv_goto (tgt := 164) hx hb dX5_drop_160 (by decide) ?_
                    refine lv_isub hx hb dX5_drop_164 ?_
                    refine g_topi (y := nI (y - (2 ^ z))) (nI_subn (by omega)) ?_
                    refine lv_istore_n (lv' := [(3, .int (nI (y - (2 ^ z)))), (5, .int (nI 1)), (2, .int (nI (x - 0))), (0, .ref h), (4, .int (nI z))]) hx hb dX5_drop_165 rfl hl (by decide) rfl (fun ls hl => ?_)
                    refine lv_iinc (v := nI (z + 1)) (lv' := [(4, .int (nI (z + 1))), (3, .int (nI (y - (2 ^ z)))), (5, .int (nI 1)), (2, .int (nI (x - 0))), (0, .ref h)]) hx hb dX5_drop_166 hl (k := 4) rfl (nI_inc _) (by decide) rfl (fun ls hl => ?_)
                    refine lv_goto (tgt := 52) hx hb dX5_drop_169 (by decide) ?_
                    exact ih52 (x - 0) (y - (2 ^ z)) (z + 1) (by omega) (by omega) (by show _ = dpR _ (wG (gsP0 st) Aa Bb) z - (if (wG (gsP0 st) Aa Bb) z then 2 ^ z else 0); rw [← h1]; first | rw [if_pos w86] | (rw [if_neg (by rw [w86]; decide)])) (by show _ = dpR _ (wG (gsP1 st) Bb Aa) z - (if (wG (gsP1 st) Bb Aa) z then 2 ^ z else 0); rw [← h2]; first | rw [if_pos w140] | (rw [if_neg (by rw [w140]; decide)])) _ _ hP hS ls (lv_sub hl [4, 3, 1, 0] rfl)
              · have c68 : Aa.testBit z = true := by by_cases h : Aa.testBit z = true <;> simp_all [nI]
                refine lv_aload_n hx hb dX5_drop_71 rfl (lv_at hl 0 rfl) ?_
                refine lv_iconst (v := nI 0) hx hb dX5_drop_72 (by decide) ?_
                refine lv_iload hx hb dX5_drop_73 (lv_at hl 3 rfl) ?_
                refine lv_aload_n hx hb dX5_drop_75 rfl (lv_at hl 0 rfl) ?_
                refine g_get hC hP hm.1 rfl inX5 6 (by decide) q3_12 (f9.1) dX5_drop_76 ?_
                refine lv_aload_n hx hb dX5_drop_79 rfl (lv_at hl 0 rfl) ?_
                refine g_get hC hP hm.1 rfl inX5 7 (by decide) q3_13 (f9.2.1) dX5_drop_80 ?_
                refine g_cp (g_rV (As := [.int (nI 0), .int (nI z), .int (nI Aa), .int (nI Bb)]) hC hP (c_X5_worseBy_0 l hP (h := h) (ci := z) (A9 := Aa) (B9 := Bb) (by first | assumption | omega) (by first | assumption | omega) (by first | assumption | omega) (by first | assumption | omega) (by first | assumption | omega)) hm.1 rfl ⟨q3_159, q3_156, q3_158, qs_36, q1_6⟩ dd_X5_worseBy ⟨Nat.le_of_ble_eq_true rfl, Nat.le_of_ble_eq_true rfl, rfl, rfl⟩ hl.1 rfl (Nat.le_of_ble_eq_true rfl) dX5_drop_83 ⟨Nat.le_of_ble_eq_true rfl, Nat.le_of_ble_eq_true rfl⟩) ?_
                refine W.eq (g2 := F0 m 86 ls [.int (oI (fstN (wM (gsP0 st) z Aa Bb (gsn st)) (gsm st)))]) rfl ?_
                refine lv_if_lt (tgt := 93) hx hb dX5_drop_86 (by decide) (fun c86 => ?_) (fun c86 => ?_)
                · have c86 := (oI_lt0 (fun k hk => Nat.lt_trans (fstN_lt hk).1 (by omega))).mp c86
                  rw [worse_eq2 hA2 hB2 (by omega) (by omega)] at c86
                  have w86 : wG (gsP0 st) Aa Bb z = false := by unfold wG; rw [c68, c86]; rfl
                  refine lv_iconst (v := nI 0) hx hb dX5_drop_93 (by decide) ?_
                  refine lv_istore (lv' := [(5, .int (nI 0)), (0, .ref h), (2, .int (nI x)), (3, .int (nI y)), (4, .int (nI z))]) hx hb dX5_drop_94 hl (by decide) rfl (fun ls hl => ?_)
                  refine lv_iload_n hx hb dX5_drop_96 rfl (lv_at hl 2 rfl) ?_
                  refine lv_iload hx hb dX5_drop_97 (lv_at hl 0 rfl) ?_
                  refine lv_if_eq (tgt := 109) hx hb dX5_drop_99 (by decide) (fun _ => ?_) (fun q => absurd (by decide) q)
                  refine lv_iconst (v := nI 0) hx hb dX5_drop_109 (by decide) ?_
                  refine lv_isub hx hb dX5_drop_110 ?_
                  refine g_topi (y := nI (x - 0)) (nI_subn (by omega)) ?_
                  refine lv_istore_n (lv' := [(2, .int (nI (x - 0))), (5, .int (nI 0)), (0, .ref h), (3, .int (nI y)), (4, .int (nI z))]) hx hb dX5_drop_111 rfl hl (by decide) rfl (fun ls hl => ?_)
                  refine lv_aload_n hx hb dX5_drop_112 rfl (lv_at hl 2 rfl) ?_
                  refine g_get hC hP hm.1 rfl inX5 7 (by decide) q3_13 (f9.2.1) dX5_drop_113 ?_
                  refine lv_iload hx hb dX5_drop_116 (lv_at hl 4 rfl) ?_
                  refine lv_ishr hx hb dX5_drop_118 ?_
                  refine lv_iconst (v := nI 1) hx hb dX5_drop_119 (by decide) ?_
                  refine lv_iand hx hb dX5_drop_120 ?_
                  refine g_topi (y := nI (if Bb.testBit z then 1 else 0)) (g_bit hB (by omega)) ?_
                  refine lv_iconst (v := nI 1) hx hb dX5_drop_121 (by decide) ?_
                  refine lv_icmp_ne (tgt := 147) hx hb dX5_drop_122 (by decide) (fun c122 => ?_) (fun c122 => ?_)
                  · have c122 : Bb.testBit z = false := by by_cases h : Bb.testBit z = true <;> simp_all
                    have w140 : wG (gsP1 st) Bb Aa z = false := by unfold wG; rw [c122]; rfl
                    refine lv_iconst (v := nI 0) hx hb dX5_drop_147 (by decide) ?_
                    refine lv_istore (lv' := [(5, .int (nI 0)), (2, .int (nI (x - 0))), (0, .ref h), (3, .int (nI y)), (4, .int (nI z))]) hx hb dX5_drop_148 hl (by decide) rfl (fun ls hl => ?_)
                    refine lv_iload_n hx hb dX5_drop_150 rfl (lv_at hl 3 rfl) ?_
                    refine lv_iload hx hb dX5_drop_151 (lv_at hl 0 rfl) ?_
                    refine lv_if_eq (tgt := 163) hx hb dX5_drop_153 (by decide) (fun _ => ?_) (fun q => absurd (by decide) q)
                    refine lv_iconst (v := nI 0) hx hb dX5_drop_163 (by decide) ?_
                    refine lv_isub hx hb dX5_drop_164 ?_
                    refine g_topi (y := nI (y - 0)) (nI_subn (by omega)) ?_
                    refine lv_istore_n (lv' := [(3, .int (nI (y - 0))), (5, .int (nI 0)), (2, .int (nI (x - 0))), (0, .ref h), (4, .int (nI z))]) hx hb dX5_drop_165 rfl hl (by decide) rfl (fun ls hl => ?_)
                    refine lv_iinc (v := nI (z + 1)) (lv' := [(4, .int (nI (z + 1))), (3, .int (nI (y - 0))), (5, .int (nI 0)), (2, .int (nI (x - 0))), (0, .ref h)]) hx hb dX5_drop_166 hl (k := 4) rfl (nI_inc _) (by decide) rfl (fun ls hl => ?_)
                    refine lv_goto (tgt := 52) hx hb dX5_drop_169 (by decide) ?_
                    exact ih52 (x - 0) (y - 0) (z + 1) (by omega) (by omega) (by show _ = dpR _ (wG (gsP0 st) Aa Bb) z - (if (wG (gsP0 st) Aa Bb) z then 2 ^ z else 0); rw [← h1]; first | rw [if_pos w86] | (rw [if_neg (by rw [w86]; decide)])) (by show _ = dpR _ (wG (gsP1 st) Bb Aa) z - (if (wG (gsP1 st) Bb Aa) z then 2 ^ z else 0); rw [← h2]; first | rw [if_pos w140] | (rw [if_neg (by rw [w140]; decide)])) _ _ hP hS ls (lv_sub hl [4, 3, 1, 0] rfl)
                  · have c122 : Bb.testBit z = true := by by_cases h : Bb.testBit z = true <;> simp_all [nI]
                    refine lv_aload_n hx hb dX5_drop_125 rfl (lv_at hl 2 rfl) ?_
                    refine lv_iconst (v := nI 1) hx hb dX5_drop_126 (by decide) ?_
                    refine lv_iload hx hb dX5_drop_127 (lv_at hl 4 rfl) ?_
                    refine lv_aload_n hx hb dX5_drop_129 rfl (lv_at hl 2 rfl) ?_
                    refine g_get hC hP hm.1 rfl inX5 7 (by decide) q3_13 (f9.2.1) dX5_drop_130 ?_
                    refine lv_aload_n hx hb dX5_drop_133 rfl (lv_at hl 2 rfl) ?_
                    refine g_get hC hP hm.1 rfl inX5 6 (by decide) q3_12 (f9.1) dX5_drop_134 ?_
                    refine g_cp (g_rV (As := [.int (nI 1), .int (nI z), .int (nI Bb), .int (nI Aa)]) hC hP (c_X5_worseBy_1 l hP (h := h) (ci := z) (A9 := Bb) (B9 := Aa) (by first | assumption | omega) (by first | assumption | omega) (by first | assumption | omega) (by first | assumption | omega) (by first | assumption | omega)) hm.1 rfl ⟨q3_159, q3_156, q3_158, qs_36, q1_6⟩ dd_X5_worseBy ⟨Nat.le_of_ble_eq_true rfl, Nat.le_of_ble_eq_true rfl, rfl, rfl⟩ hl.1 rfl (Nat.le_of_ble_eq_true rfl) dX5_drop_137 ⟨Nat.le_of_ble_eq_true rfl, Nat.le_of_ble_eq_true rfl⟩) ?_
                    refine W.eq (g2 := F0 m 140 ls [.int (oI (fstN (wM (gsP1 st) z Bb Aa (gsm st)) (gsn st)))]) rfl ?_
                    refine lv_if_lt (tgt := 147) hx hb dX5_drop_140 (by decide) (fun c140 => ?_) (fun c140 => ?_)
                    · have c140 := (oI_lt0 (fun k hk => Nat.lt_trans (fstN_lt hk).1 (by omega))).mp c140
                      rw [worse_eq2 hB2 hA2 (by omega) (by omega)] at c140
                      have w140 : wG (gsP1 st) Bb Aa z = false := by unfold wG; rw [c122, c140]; rfl
                      refine lv_iconst (v := nI 0) hx hb dX5_drop_147 (by decide) ?_
                      refine lv_istore (lv' := [(5, .int (nI 0)), (2, .int (nI (x - 0))), (0, .ref h), (3, .int (nI y)), (4, .int (nI z))]) hx hb dX5_drop_148 hl (by decide) rfl (fun ls hl => ?_)
                      refine lv_iload_n hx hb dX5_drop_150 rfl (lv_at hl 3 rfl) ?_
                      refine lv_iload hx hb dX5_drop_151 (lv_at hl 0 rfl) ?_
                      refine lv_if_eq (tgt := 163) hx hb dX5_drop_153 (by decide) (fun _ => ?_) (fun q => absurd (by decide) q)
                      refine lv_iconst (v := nI 0) hx hb dX5_drop_163 (by decide) ?_
                      refine lv_isub hx hb dX5_drop_164 ?_
                      refine g_topi (y := nI (y - 0)) (nI_subn (by omega)) ?_
                      refine lv_istore_n (lv' := [(3, .int (nI (y - 0))), (5, .int (nI 0)), (2, .int (nI (x - 0))), (0, .ref h), (4, .int (nI z))]) hx hb dX5_drop_165 rfl hl (by decide) rfl (fun ls hl => ?_)
                      refine lv_iinc (v := nI (z + 1)) (lv' := [(4, .int (nI (z + 1))), (3, .int (nI (y - 0))), (5, .int (nI 0)), (2, .int (nI (x - 0))), (0, .ref h)]) hx hb dX5_drop_166 hl (k := 4) rfl (nI_inc _) (by decide) rfl (fun ls hl => ?_)
                      refine lv_goto (tgt := 52) hx hb dX5_drop_169 (by decide) ?_
                      exact ih52 (x - 0) (y - 0) (z + 1) (by omega) (by omega) (by show _ = dpR _ (wG (gsP0 st) Aa Bb) z - (if (wG (gsP0 st) Aa Bb) z then 2 ^ z else 0); rw [← h1]; first | rw [if_pos w86] | (rw [if_neg (by rw [w86]; decide)])) (by show _ = dpR _ (wG (gsP1 st) Bb Aa) z - (if (wG (gsP1 st) Bb Aa) z then 2 ^ z else 0); rw [← h2]; first | rw [if_pos w140] | (rw [if_neg (by rw [w140]; decide)])) _ _ hP hS ls (lv_sub hl [4, 3, 1, 0] rfl)
                    · have c140 := mt (oI_lt0 (fun k hk => Nat.lt_trans (fstN_lt hk).1 (by omega))).mpr c140
                      rw [worse_eq2 hB2 hA2 (by omega) (by omega)] at c140
                      have w140 : wG (gsP1 st) Bb Aa z = true := by unfold wG; rw [c122]; cases e : fBet (gsP1 st) z Bb Aa; (exact absurd e c140); rfl
                      have l140 := dp_ge (P := gsP1 st) (B := Aa) (z := z) hB (by omega) c122
                      rw [← h2] at l140
                      refine lv_iconst (v := nI 1) hx hb dX5_drop_143 (by decide) ?_
                      refine lv_goto (tgt := 148) hx hb dX5_drop_144 (by decide) ?_
                      refine lv_istore (lv' := [(5, .int (nI 1)), (2, .int (nI (x - 0))), (0, .ref h), (3, .int (nI y)), (4, .int (nI z))]) hx hb dX5_drop_148 hl (by decide) rfl (fun ls hl => ?_)
                      refine lv_iload_n hx hb dX5_drop_150 rfl (lv_at hl 3 rfl) ?_
                      refine lv_iload hx hb dX5_drop_151 (lv_at hl 0 rfl) ?_
                      refine lv_if_eq (tgt := 163) hx hb dX5_drop_153 (by decide) (fun q => absurd q (by decide)) (fun _ => ?_)
                      refine lv_iconst (v := nI 1) hx hb dX5_drop_156 (by decide) ?_
                      refine lv_iload hx hb dX5_drop_157 (lv_at hl 4 rfl) ?_
                      refine lv_ishl hx hb dX5_drop_159 ?_
                      refine g_topi (y := nI (2 ^ z)) (g_shl (by omega)) ?_
                      refine lv_goto (tgt := 164) hx hb dX5_drop_160 (by decide) ?_
                      refine lv_isub hx hb dX5_drop_164 ?_
                      refine g_topi (y := nI (y - (2 ^ z))) (nI_subn (by omega)) ?_
                      refine lv_istore_n (lv' := [(3, .int (nI (y - (2 ^ z)))), (5, .int (nI 1)), (2, .int (nI (x - 0))), (0, .ref h), (4, .int (nI z))]) hx hb dX5_drop_165 rfl hl (by decide) rfl (fun ls hl => ?_)
                      refine lv_iinc (v := nI (z + 1)) (lv' := [(4, .int (nI (z + 1))), (3, .int (nI (y - (2 ^ z)))), (5, .int (nI 1)), (2, .int (nI (x - 0))), (0, .ref h)]) hx hb dX5_drop_166 hl (k := 4) rfl (nI_inc _) (by decide) rfl (fun ls hl => ?_)
                      refine lv_goto (tgt := 52) hx hb dX5_drop_169 (by decide) ?_
                      exact ih52 (x - 0) (y - (2 ^ z)) (z + 1) (by omega) (by omega) (by show _ = dpR _ (wG (gsP0 st) Aa Bb) z - (if (wG (gsP0 st) Aa Bb) z then 2 ^ z else 0); rw [← h1]; first | rw [if_pos w86] | (rw [if_neg (by rw [w86]; decide)])) (by show _ = dpR _ (wG (gsP1 st) Bb Aa) z - (if (wG (gsP1 st) Bb Aa) z then 2 ^ z else 0); rw [← h2]; first | rw [if_pos w140] | (rw [if_neg (by rw [w140]; decide)])) _ _ hP hS ls (lv_sub hl [4, 3, 1, 0] rfl)
                · have c86 := mt (oI_lt0 (fun k hk => Nat.lt_trans (fstN_lt hk).1 (by omega))).mpr c86
                  rw [worse_eq2 hA2 hB2 (by omega) (by omega)] at c86
                  have w86 : wG (gsP0 st) Aa Bb z = true := by unfold wG; rw [c68]; cases e : fBet (gsP0 st) z Aa Bb; (exact absurd e c86); rfl
                  have l86 := dp_ge (P := gsP0 st) (B := Bb) (z := z) hA (by omega) c68
                  rw [← h1] at l86
                  refine lv_iconst (v := nI 1) hx hb dX5_drop_89 (by decide) ?_
                  refine lv_goto (tgt := 94) hx hb dX5_drop_90 (by decide) ?_
                  refine lv_istore (lv' := [(5, .int (nI 1)), (0, .ref h), (2, .int (nI x)), (3, .int (nI y)), (4, .int (nI z))]) hx hb dX5_drop_94 hl (by decide) rfl (fun ls hl => ?_)
                  refine lv_iload_n hx hb dX5_drop_96 rfl (lv_at hl 2 rfl) ?_
                  refine lv_iload hx hb dX5_drop_97 (lv_at hl 0 rfl) ?_
                  refine lv_if_eq (tgt := 109) hx hb dX5_drop_99 (by decide) (fun q => absurd q (by decide)) (fun _ => ?_)
                  refine lv_iconst (v := nI 1) hx hb dX5_drop_102 (by decide) ?_
                  refine lv_iload hx hb dX5_drop_103 (lv_at hl 4 rfl) ?_
                  refine lv_ishl hx hb dX5_drop_105 ?_
                  refine g_topi (y := nI (2 ^ z)) (g_shl (by omega)) ?_
                  refine lv_goto (tgt := 110) hx hb dX5_drop_106 (by decide) ?_
                  refine lv_isub hx hb dX5_drop_110 ?_
                  refine g_topi (y := nI (x - (2 ^ z))) (nI_subn (by omega)) ?_
                  refine lv_istore_n (lv' := [(2, .int (nI (x - (2 ^ z)))), (5, .int (nI 1)), (0, .ref h), (3, .int (nI y)), (4, .int (nI z))]) hx hb dX5_drop_111 rfl hl (by decide) rfl (fun ls hl => ?_)
                  refine lv_aload_n hx hb dX5_drop_112 rfl (lv_at hl 2 rfl) ?_
                  refine g_get hC hP hm.1 rfl inX5 7 (by decide) q3_13 (f9.2.1) dX5_drop_113 ?_
                  refine lv_iload hx hb dX5_drop_116 (lv_at hl 4 rfl) ?_
                  refine lv_ishr hx hb dX5_drop_118 ?_
                  refine lv_iconst (v := nI 1) hx hb dX5_drop_119 (by decide) ?_
                  refine lv_iand hx hb dX5_drop_120 ?_
                  refine g_topi (y := nI (if Bb.testBit z then 1 else 0)) (g_bit hB (by omega)) ?_
                  refine lv_iconst (v := nI 1) hx hb dX5_drop_121 (by decide) ?_
                  refine lv_icmp_ne (tgt := 147) hx hb dX5_drop_122 (by decide) (fun c122 => ?_) (fun c122 => ?_)
                  · have c122 : Bb.testBit z = false := by by_cases h : Bb.testBit z = true <;> simp_all
                    have w140 : wG (gsP1 st) Bb Aa z = false := by unfold wG; rw [c122]; rfl
                    refine lv_iconst (v := nI 0) hx hb dX5_drop_147 (by decide) ?_
                    refine lv_istore (lv' := [(5, .int (nI 0)), (2, .int (nI (x - (2 ^ z)))), (0, .ref h), (3, .int (nI y)), (4, .int (nI z))]) hx hb dX5_drop_148 hl (by decide) rfl (fun ls hl => ?_)
                    refine lv_iload_n hx hb dX5_drop_150 rfl (lv_at hl 3 rfl) ?_
                    refine lv_iload hx hb dX5_drop_151 (lv_at hl 0 rfl) ?_
                    refine lv_if_eq (tgt := 163) hx hb dX5_drop_153 (by decide) (fun _ => ?_) (fun q => absurd (by decide) q)
                    refine lv_iconst (v := nI 0) hx hb dX5_drop_163 (by decide) ?_
                    refine lv_isub hx hb dX5_drop_164 ?_
                    refine g_topi (y := nI (y - 0)) (nI_subn (by omega)) ?_
                    refine lv_istore_n (lv' := [(3, .int (nI (y - 0))), (5, .int (nI 0)), (2, .int (nI (x - (2 ^ z)))), (0, .ref h), (4, .int (nI z))]) hx hb dX5_drop_165 rfl hl (by decide) rfl (fun ls hl => ?_)
                    refine lv_iinc (v := nI (z + 1)) (lv' := [(4, .int (nI (z + 1))), (3, .int (nI (y - 0))), (5, .int (nI 0)), (2, .int (nI (x - (2 ^ z)))), (0, .ref h)]) hx hb dX5_drop_166 hl (k := 4) rfl (nI_inc _) (by decide) rfl (fun ls hl => ?_)
                    refine lv_goto (tgt := 52) hx hb dX5_drop_169 (by decide) ?_
                    exact ih52 (x - (2 ^ z)) (y - 0) (z + 1) (by omega) (by omega) (by show _ = dpR _ (wG (gsP0 st) Aa Bb) z - (if (wG (gsP0 st) Aa Bb) z then 2 ^ z else 0); rw [← h1]; first | rw [if_pos w86] | (rw [if_neg (by rw [w86]; decide)])) (by show _ = dpR _ (wG (gsP1 st) Bb Aa) z - (if (wG (gsP1 st) Bb Aa) z then 2 ^ z else 0); rw [← h2]; first | rw [if_pos w140] | (rw [if_neg (by rw [w140]; decide)])) _ _ hP hS ls (lv_sub hl [4, 3, 1, 0] rfl)
                  · have c122 : Bb.testBit z = true := by by_cases h : Bb.testBit z = true <;> simp_all [nI]
                    refine lv_aload_n hx hb dX5_drop_125 rfl (lv_at hl 2 rfl) ?_
                    refine lv_iconst (v := nI 1) hx hb dX5_drop_126 (by decide) ?_
                    refine lv_iload hx hb dX5_drop_127 (lv_at hl 4 rfl) ?_
                    refine lv_aload_n hx hb dX5_drop_129 rfl (lv_at hl 2 rfl) ?_
                    refine g_get hC hP hm.1 rfl inX5 7 (by decide) q3_13 (f9.2.1) dX5_drop_130 ?_
                    refine lv_aload_n hx hb dX5_drop_133 rfl (lv_at hl 2 rfl) ?_
                    refine g_get hC hP hm.1 rfl inX5 6 (by decide) q3_12 (f9.1) dX5_drop_134 ?_
                    refine g_cp (g_rV (As := [.int (nI 1), .int (nI z), .int (nI Bb), .int (nI Aa)]) hC hP (c_X5_worseBy_1 l hP (h := h) (ci := z) (A9 := Bb) (B9 := Aa) (by first | assumption | omega) (by first | assumption | omega) (by first | assumption | omega) (by first | assumption | omega) (by first | assumption | omega)) hm.1 rfl ⟨q3_159, q3_156, q3_158, qs_36, q1_6⟩ dd_X5_worseBy ⟨Nat.le_of_ble_eq_true rfl, Nat.le_of_ble_eq_true rfl, rfl, rfl⟩ hl.1 rfl (Nat.le_of_ble_eq_true rfl) dX5_drop_137 ⟨Nat.le_of_ble_eq_true rfl, Nat.le_of_ble_eq_true rfl⟩) ?_
                    refine W.eq (g2 := F0 m 140 ls [.int (oI (fstN (wM (gsP1 st) z Bb Aa (gsm st)) (gsn st)))]) rfl ?_
                    refine lv_if_lt (tgt := 147) hx hb dX5_drop_140 (by decide) (fun c140 => ?_) (fun c140 => ?_)
                    · have c140 := (oI_lt0 (fun k hk => Nat.lt_trans (fstN_lt hk).1 (by omega))).mp c140
                      rw [worse_eq2 hB2 hA2 (by omega) (by omega)] at c140
                      have w140 : wG (gsP1 st) Bb Aa z = false := by unfold wG; rw [c122, c140]; rfl
                      refine lv_iconst (v := nI 0) hx hb dX5_drop_147 (by decide) ?_
                      refine lv_istore (lv' := [(5, .int (nI 0)), (2, .int (nI (x - (2 ^ z)))), (0, .ref h), (3, .int (nI y)), (4, .int (nI z))]) hx hb dX5_drop_148 hl (by decide) rfl (fun ls hl => ?_)
                      refine lv_iload_n hx hb dX5_drop_150 rfl (lv_at hl 3 rfl) ?_
                      refine lv_iload hx hb dX5_drop_151 (lv_at hl 0 rfl) ?_
                      refine lv_if_eq (tgt := 163) hx hb dX5_drop_153 (by decide) (fun _ => ?_) (fun q => absurd (by decide) q)
                      refine lv_iconst (v := nI 0) hx hb dX5_drop_163 (by decide) ?_
                      refine lv_isub hx hb dX5_drop_164 ?_
                      refine g_topi (y := nI (y - 0)) (nI_subn (by omega)) ?_
                      refine lv_istore_n (lv' := [(3, .int (nI (y - 0))), (5, .int (nI 0)), (2, .int (nI (x - (2 ^ z)))), (0, .ref h), (4, .int (nI z))]) hx hb dX5_drop_165 rfl hl (by decide) rfl (fun ls hl => ?_)
                      refine lv_iinc (v := nI (z + 1)) (lv' := [(4, .int (nI (z + 1))), (3, .int (nI (y - 0))), (5, .int (nI 0)), (2, .int (nI (x - (2 ^ z)))), (0, .ref h)]) hx hb dX5_drop_166 hl (k := 4) rfl (nI_inc _) (by decide) rfl (fun ls hl => ?_)
                      refine lv_goto (tgt := 52) hx hb dX5_drop_169 (by decide) ?_
                      exact ih52 (x - (2 ^ z)) (y - 0) (z + 1) (by omega) (by omega) (by show _ = dpR _ (wG (gsP0 st) Aa Bb) z - (if (wG (gsP0 st) Aa Bb) z then 2 ^ z else 0); rw [← h1]; first | rw [if_pos w86] | (rw [if_neg (by rw [w86]; decide)])) (by show _ = dpR _ (wG (gsP1 st) Bb Aa) z - (if (wG (gsP1 st) Bb Aa) z then 2 ^ z else 0); rw [← h2]; first | rw [if_pos w140] | (rw [if_neg (by rw [w140]; decide)])) _ _ hP hS ls (lv_sub hl [4, 3, 1, 0] rfl)
                    · have c140 := mt (oI_lt0 (fun k hk => Nat.lt_trans (fstN_lt hk).1 (by omega))).mpr c140
                      rw [worse_eq2 hB2 hA2 (by omega) (by omega)] at c140
                      have w140 : wG (gsP1 st) Bb Aa z = true := by unfold wG; rw [c122]; cases e : fBet (gsP1 st) z Bb Aa; (exact absurd e c140); rfl
                      have l140 := dp_ge (P := gsP1 st) (B := Aa) (z := z) hB (by omega) c122
                      rw [← h2] at l140
                      refine lv_iconst (v := nI 1) hx hb dX5_drop_143 (by decide) ?_
                      refine lv_goto (tgt := 148) hx hb dX5_drop_144 (by decide) ?_
                      refine lv_istore (lv' := [(5, .int (nI 1)), (2, .int (nI (x - (2 ^ z)))), (0, .ref h), (3, .int (nI y)), (4, .int (nI z))]) hx hb dX5_drop_148 hl (by decide) rfl (fun ls hl => ?_)
                      refine lv_iload_n hx hb dX5_drop_150 rfl (lv_at hl 3 rfl) ?_
                      refine lv_iload hx hb dX5_drop_151 (lv_at hl 0 rfl) ?_
                      refine lv_if_eq (tgt := 163) hx hb dX5_drop_153 (by decide) (fun q => absurd q (by decide)) (fun _ => ?_)
                      refine lv_iconst (v := nI 1) hx hb dX5_drop_156 (by decide) ?_
                      refine lv_iload hx hb dX5_drop_157 (lv_at hl 4 rfl) ?_
                      refine lv_ishl hx hb dX5_drop_159 ?_
                      refine g_topi (y := nI (2 ^ z)) (g_shl (by omega)) ?_
                      refine lv_goto (tgt := 164) hx hb dX5_drop_160 (by decide) ?_
                      refine lv_isub hx hb dX5_drop_164 ?_
                      refine g_topi (y := nI (y - (2 ^ z))) (nI_subn (by omega)) ?_
                      refine lv_istore_n (lv' := [(3, .int (nI (y - (2 ^ z)))), (5, .int (nI 1)), (2, .int (nI (x - (2 ^ z)))), (0, .ref h), (4, .int (nI z))]) hx hb dX5_drop_165 rfl hl (by decide) rfl (fun ls hl => ?_)
                      refine lv_iinc (v := nI (z + 1)) (lv' := [(4, .int (nI (z + 1))), (3, .int (nI (y - (2 ^ z)))), (5, .int (nI 1)), (2, .int (nI (x - (2 ^ z)))), (0, .ref h)]) hx hb dX5_drop_166 hl (k := 4) rfl (nI_inc _) (by decide) rfl (fun ls hl => ?_)
                      refine lv_goto (tgt := 52) hx hb dX5_drop_169 (by decide) ?_
                      exact ih52 (x - (2 ^ z)) (y - (2 ^ z)) (z + 1) (by omega) (by omega) (by show _ = dpR _ (wG (gsP0 st) Aa Bb) z - (if (wG (gsP0 st) Aa Bb) z then 2 ^ z else 0); rw [← h1]; first | rw [if_pos w86] | (rw [if_neg (by rw [w86]; decide)])) (by show _ = dpR _ (wG (gsP1 st) Bb Aa) z - (if (wG (gsP1 st) Bb Aa) z then 2 ^ z else 0); rw [← h2]; first | rw [if_pos w140] | (rw [if_neg (by rw [w140]; decide)])) _ _ hP hS ls (lv_sub hl [4, 3, 1, 0] rfl)
        exact L52 5 Aa Bb 0 (by omega) (by omega) rfl rfl _ _ hP hS ls (lv_sub hl [3, 2, 1, 0] rfl)
  exact L35 10 (2 ^ gsm st - 1) (2 ^ gsn st - 1) 0 8 10 true O12 (by omega) (by simp only [*, drM]) (drI_0 hms hns) (fun _ => by omega) (by omega) _ _ hP hS ls (lv_sub hl [1, 0] rfl)
set_option maxHeartbeats 4000000 in
set_option maxRecDepth 100000 in
theorem c_X5_left (l : Launch) {G : gG} {T : gTy} {I : gI} {J : gJ} {Q : gR} {O : gO} {H : Heap} (hP : gP G T I J Q O H) {h : Nat} {st : GS} {q : Int32} (hm : isMo T O h) (hs0 : moS I h st) : Met l yX5_left (gw yX5_left cX5_left 2 (some (.int))) ({ frames := 3, cells := 0, slots := 0, locals := 75 } : Room) (gPc G H [.ref h, .int q]) (gQc (gF T H) (fun x H1 => rLeft st (fun x1 s1 => x = some (.int x1) ∧ moR G T h s1 H1) q)) 0 0 (gF T H) := by
  refine g_met [(0, .ref h), (1, .int q)] (by decide) rfl (by exact Nat.le_of_ble_eq_true rfl) ?_
  intro p e s m below meth c hC hs ls hl
  have hx := hC.1.1
  have hb := hC.1.2.1
  have hS : va_S (gF T H) s.heap H [] := hs ▸ va_S.rf
  have hTA : ∀ q, (T q).1 ≠ 0 → gF T H q := fun q h => Or.inl h
  have hA : ∀ q, s.heap.size ≤ q → gF T H q := fun q h => Or.inr (hs ▸ h)
  generalize hAe : gF T H = A at hS hTA hA ⊢
  have hms := hs0.1
  have hns := hs0.2.1
  refine lv_iload_n hx hb dX5_left_0 rfl (lv_at hl 1 rfl) ?_
  refine g_cp (g_rS (As := [.int q]) hC (c_X5_isWho l (q := q)) ⟨q3_78, q3_76, q3_77, q1_6⟩ dd_X5_isWho ⟨Nat.le_of_ble_eq_true rfl, Nat.le_of_ble_eq_true rfl, rfl, rfl⟩ hl.1 rfl (Nat.le_of_ble_eq_true rfl) dX5_left_1 ⟨Nat.le_of_ble_eq_true rfl, Nat.le_of_ble_eq_true rfl⟩) ?_
  refine W.eq (g2 := F0 m 4 ls [.int (gb (isW q))]) rfl ?_
  refine lv_if_ne (tgt := 13) hx hb dX5_left_4 (by decide) (fun c4 => ?_) (fun c4 => ?_)
  · have c4 := gb_t c4
    refine lv_aload_n hx hb dX5_left_13 rfl (lv_at hl 0 rfl) ?_
    refine g_cc (g_rV (As := []) hC hP (c_X5_drop l hP (h := h) (by first | assumption | omega) (by first | assumption | omega)) hm.1 rfl ⟨q3_167, q3_164, q3_166, qs_37, q1_6⟩ dd_X5_drop ⟨Nat.le_of_ble_eq_true rfl, Nat.le_of_ble_eq_true rfl, rfl, rfl⟩ hl.1 rfl (Nat.le_of_ble_eq_true rfl) dX5_left_14 ⟨Nat.le_of_ble_eq_true rfl, Nat.le_of_ble_eq_true rfl⟩) hS (fun q h => h.elim (hTA q) (fun z => hA q (Nat.le_trans hS.1 z))) (fun r5 H1 locs2 hq6 hS hz3 hfr4 => ?_)
    obtain ⟨rfl, hP⟩ := hq6
    obtain ⟨O7, hO7, hP⟩ : ∃ X : gO, X = drM O h (gsDr st).1 (gsDr st).2.1 (gsDr st).2.2 ∧ gP G T I J Q X H1 := ⟨_, rfl, hP⟩
    have hm9 : isMo T O7 h := mo_dr hm hO7
    have f9 := drM_f O h (gsDr st).1 (gsDr st).2.1 (gsDr st).2.2
    rw [← hO7] at f9
    refine W.eq (g2 := F0 m 17 ls []) rfl ?_
    rcases isW_c c4 with rfl | rfl
    · refine lv_iload_n hx hb dX5_left_17 rfl (lv_at hl 1 rfl) ?_
      refine lv_if_ne (tgt := 28) hx hb dX5_left_18 (by decide) (fun q => absurd (by decide) q) (fun _ => ?_)
      refine lv_aload_n hx hb dX5_left_21 rfl (lv_at hl 0 rfl) ?_
      refine g_get hC hP hm9.1 rfl inX5 6 (by decide) q3_12 f9.1 dX5_left_22 ?_
      refine lv_goto (tgt := 32) hx hb dX5_left_25 (by decide) ?_
      refine g_retci hC hS ?_ dX5_left_32
      exact Or.inr (Or.inl ⟨rfl, rfl, mo_same hm9 hs0 hP⟩)
    · refine lv_iload_n hx hb dX5_left_17 rfl (lv_at hl 1 rfl) ?_
      refine lv_if_ne (tgt := 28) hx hb dX5_left_18 (by decide) (fun _ => ?_) (fun q => absurd q (by decide))
      refine lv_aload_n hx hb dX5_left_28 rfl (lv_at hl 0 rfl) ?_
      refine g_get hC hP hm9.1 rfl inX5 7 (by decide) q3_13 f9.2.1 dX5_left_29 ?_
      refine g_retci hC hS ?_ dX5_left_32
      exact Or.inr (Or.inr ⟨rfl, rfl, mo_same hm9 hs0 hP⟩)
  · have c4 := gb_f c4
    refine lv_aload_n hx hb dX5_left_7 rfl (lv_at hl 0 rfl) ?_
    refine lv_iconst (v := (-1)) hx hb dX5_left_8 (by decide) ?_
    refine g_cc (g_rV (As := [.int (-1 : Int32)]) hC hP (c_X5_refuse l hP (h := h) (q := (-1 : Int32)) (j := 1) (by first | assumption | omega) (by decide) (by omega)) hm.1 rfl ⟨q3_71, q3_68, q3_70, qs_25, q1_6⟩ dd_X5_refuse ⟨Nat.le_of_ble_eq_true rfl, Nat.le_of_ble_eq_true rfl, rfl, rfl⟩ hl.1 rfl (Nat.le_of_ble_eq_true rfl) dX5_left_9 ⟨Nat.le_of_ble_eq_true rfl, Nat.le_of_ble_eq_true rfl⟩) hS (fun q h => h.elim (hTA q) (fun z => hA q (Nat.le_trans hS.1 z))) (fun r12 H8 locs9 hq13 hS hz10 hfr11 => ?_)
    obtain ⟨rfl, hP⟩ := hq13
    obtain ⟨I14, hI14, hP⟩ : ∃ I14 : gI, I14 = au I (h + 4) 1 (I (h + 4) 1 + 1) ∧ gP G T I14 J Q O H8 := ⟨_, rfl, hP⟩
    refine W.eq (g2 := F0 m 12 ls [.int (-1 : Int32)]) rfl ?_
    refine g_retci hC hS ?_ dX5_left_12
    exact Or.inl ⟨c4, rfl, mo_ref hm hs0 (j := 1) (by decide) hI14 hP⟩
set_option maxHeartbeats 4000000 in
set_option maxRecDepth 100000 in
theorem c_X5_times (l : Launch) {G : gG} {T : gTy} {I : gI} {J : gJ} {Q : gR} {O : gO} {H : Heap} (hP : gP G T I J Q O H) {h : Nat} {st : GS}  (hm : isMo T O h) (hs0 : moS I h st) : Met l yX5_times (gw yX5_times cX5_times 1 (some (.int))) ({ frames := 3, cells := 0, slots := 0, locals := 75 } : Room) (gPc G H [.ref h]) (gQc (gF T H) (fun x H1 => rTimes st (fun x1 s1 => x = some (.int x1) ∧ moR G T h s1 H1) )) 0 0 (gF T H) := by
  refine g_met [(0, .ref h)] (by decide) rfl (by exact Nat.le_of_ble_eq_true rfl) ?_
  intro p e s m below meth c hC hs ls hl
  have hx := hC.1.1
  have hb := hC.1.2.1
  have hS : va_S (gF T H) s.heap H [] := hs ▸ va_S.rf
  have hTA : ∀ q, (T q).1 ≠ 0 → gF T H q := fun q h => Or.inl h
  have hA : ∀ q, s.heap.size ≤ q → gF T H q := fun q h => Or.inr (hs ▸ h)
  generalize hAe : gF T H = A at hS hTA hA ⊢
  have hms := hs0.1
  have hns := hs0.2.1
  refine lv_aload_n hx hb dX5_times_0 rfl (lv_at hl 0 rfl) ?_
  refine g_cc (g_rV (As := []) hC hP (c_X5_drop l hP (h := h) (by first | assumption | omega) (by first | assumption | omega)) hm.1 rfl ⟨q3_167, q3_164, q3_166, qs_37, q1_6⟩ dd_X5_drop ⟨Nat.le_of_ble_eq_true rfl, Nat.le_of_ble_eq_true rfl, rfl, rfl⟩ hl.1 rfl (Nat.le_of_ble_eq_true rfl) dX5_times_1 ⟨Nat.le_of_ble_eq_true rfl, Nat.le_of_ble_eq_true rfl⟩) hS (fun q h => h.elim (hTA q) (fun z => hA q (Nat.le_trans hS.1 z))) (fun r5 H1 locs2 hq6 hS hz3 hfr4 => ?_)
  obtain ⟨rfl, hP⟩ := hq6
  obtain ⟨O7, hO7, hP⟩ : ∃ X : gO, X = drM O h (gsDr st).1 (gsDr st).2.1 (gsDr st).2.2 ∧ gP G T I J Q X H1 := ⟨_, rfl, hP⟩
  have hm9 : isMo T O7 h := mo_dr hm hO7
  have f9 := drM_f O h (gsDr st).1 (gsDr st).2.1 (gsDr st).2.2
  rw [← hO7] at f9
  refine W.eq (g2 := F0 m 4 ls []) rfl ?_
  refine lv_aload_n hx hb dX5_times_4 rfl (lv_at hl 0 rfl) ?_
  refine g_get hC hP hm9.1 rfl inX5 8 (by decide) q3_14 f9.2.2 dX5_times_5 ?_
  refine g_retci hC hS ?_ dX5_times_8
  exact ⟨rfl, mo_same hm9 hs0 hP⟩
