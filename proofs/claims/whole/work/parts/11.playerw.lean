/-! ===== writing methods of Player and Mix ===== -/
/-- one place of one row -/
def au {α : Type} (F : Nat → Nat → α) (a k : Nat) (v : α) : Nat → Nat → α := gu F a (gu (F a) k v)
theorem au_row {α : Type} (F : Nat → Nat → α) (a k : Nat) (v : α) : au F a k v a = gu (F a) k v := gu_eq _ _ _
theorem au_ne {α : Type} (F : Nat → Nat → α) {a b : Nat} (k : Nat) (v : α) (h : b ≠ a) : au F a k v b = F b := gu_ne _ _ h
theorem au_gu {α : Type} (F : Nat → Nat → α) (a k : Nat) (f : Nat → α) (v : α) : au (gu F a f) a k v = gu F a (gu f k v) := by
  unfold au; rw [gu_eq, gu_gu]
theorem au_def {α : Type} (F : Nat → Nat → α) (a k : Nat) (v : α) : au F a k v = gu F a (gu (F a) k v) := rfl
/-- the first 16 are 0 -/
def z16 (f : Nat → Int32) (i : Nat) : Nat → Int32 := fun j => if j < i then 0 else f j
def addA (f : Nat → Int32) (i k : Nat) (v : Int32) : Nat → Int32 := fun j => if j % 4 = k ∧ j / 4 < i then f j + v else f j
def mulA (f : Nat → Int32) (i : Nat) (v : Int32) : Nat → Int32 := fun j => if j < i then f j * v else f j
def tsum (X : Nat → Int64) : Nat → Int64
  | 0 => 0
  | k + 1 => tsum X k + X k
def usedB (X : Nat → Int64) (i : Nat) : Nat := msk (fun k => decide (0 < X k)) i
def trayX (X : Nat → Int64) (w : Nat → Int32) (ch i : Nat) : Nat → Int64 := fun j => if j < i then (if j < ch then (w j).toInt64 else 0) else X j
def msum (P : Nat → Int32) (X Y : Nat → Int64) : Nat → Int64
  | 0 => 0
  | k + 1 => msum P X Y k + X k * wsum P Y k 4
theorem isPl_au {T : gTy} {O O' : gO} {b ch a k : Nat} {v : Value} (h : isPl T O b ch) (hO : O' = au O a k v) (hne : b ≠ a) : isPl T O' b ch := by
  unfold isPl at *
  rw [hO, au_ne _ _ _ hne]
  exact h
theorem isMx_au {T : gTy} {O O' : gO} {b a k : Nat} {v : Value} (h : isMx T O b) (hO : O' = au O a k v) (hne : b ≠ a ∨ k ≠ 0) : isMx T O' b := by
  unfold isMx at *
  rcases Classical.em (b = a) with e | e
  · subst e
    rw [hO, au_row, gu_ne _ _ (by omega)]
    exact h
  · rw [hO, au_ne _ _ _ e]
    exact h
theorem z16_s (f : Nat → Int32) (i : Nat) : gu (z16 f i) i 0 = z16 f (i + 1) := by
  funext j
  by_cases h : j = i
  · simp [gu, z16, h]
  · simp only [gu, z16, h, if_false]
    by_cases h2 : j < i
    · rw [if_pos h2, if_pos (by omega)]
    · rw [if_neg h2, if_neg (by omega)]
theorem addA_0 (f : Nat → Int32) (k : Nat) (v : Int32) : addA f 0 k v = f := by
  funext j; simp [addA]
theorem addA_at (f : Nat → Int32) {i k : Nat} (hk : k < 4) (v : Int32) : addA f i k v (i * 4 + k) = f (i * 4 + k) := by
  unfold addA
  rw [if_neg (by omega)]
theorem addA_s (f : Nat → Int32) {i k : Nat} (hk : k < 4) (v : Int32) : gu (addA f i k v) (i * 4 + k) (f (i * 4 + k) + v) = addA f (i + 1) k v := by
  funext j
  by_cases h : j = i * 4 + k
  · subst h
    simp only [gu, if_true, addA]
    rw [if_pos (by omega)]
  · simp only [gu, addA, h, if_false]
    by_cases h2 : j % 4 = k ∧ j / 4 < i
    · rw [if_pos h2, if_pos (by omega)]
    · rw [if_neg h2, if_neg (by omega)]
theorem mulA_s (f : Nat → Int32) (i : Nat) (v : Int32) : gu (mulA f i v) i (mulA f i v i * v) = mulA f (i + 1) v := by
  funext j
  by_cases h : j = i
  · simp [gu, mulA, h]
  · simp only [gu, mulA, h, if_false]
    by_cases h2 : j < i
    · rw [if_pos h2, if_pos (by omega)]
    · rw [if_neg h2, if_neg (by omega)]
theorem trayX_s (X : Nat → Int64) (w : Nat → Int32) (ch i : Nat) : gu (trayX X w ch i) i (if i < ch then (w i).toInt64 else 0) = trayX X w ch (i + 1) := by
  funext j
  by_cases h : j = i
  · simp [gu, trayX, h]
  · simp only [gu, trayX, h, if_false]
    by_cases h2 : j < i
    · simp [h2, show j < i + 1 by omega]
    · simp [h2, show ¬ j < i + 1 by omega]
set_option maxHeartbeats 4000000 in
set_option maxRecDepth 100000 in
theorem c_X3_startAnew (l : Launch) {G : gG} {T : gTy} {I : gI} {J : gJ} {Q : gR} {O : gO} {H : Heap} (hP : gP G T I J Q O H) {b ch nn : Nat} (hpl : isPl T O b ch) : Met l yX3_startAnew (gw yX3_startAnew cX3_startAnew 3 (none)) ({ frames := 0, cells := 0, slots := 0, locals := 0 } : Room) (gPc G H [.ref b, .int (nI nn)]) (gQc (gF T H) (fun r H1 => r = none ∧ gP G T (gu I (b + 9) (z16 (I (b + 9)) 16)) J Q (au O b 0 (.int (nI nn))) H1)) 0 0 (gF T H) := by
  refine g_met [(0, .ref b), (1, .int (nI nn))] (by decide) rfl (by exact Nat.le_of_ble_eq_true rfl) ?_
  intro p e s m below meth c hC hs ls hl
  have hx := hC.1.1
  have hb := hC.1.2.1
  have hS : va_S (gF T H) s.heap H [] := hs ▸ va_S.rf
  have hTA : ∀ q, (T q).1 ≠ 0 → gF T H q := fun q h => Or.inl h
  have hA : ∀ q, s.heap.size ≤ q → gF T H q := fun q h => Or.inr (hs ▸ h)
  generalize hAe : gF T H = A at hS hTA hA ⊢
  have hpl_lo := hpl.2.2.2.2.2.2.2.2.1
  have hpl_hi := hpl.2.2.2.2.2.2.2.2.2
  refine lv_aload_n hx hb dX3_startAnew_0 rfl (lv_at hl 0 rfl) ?_
  refine lv_iload_n hx hb dX3_startAnew_1 rfl (lv_at hl 1 rfl) ?_
  refine g_put hC hP hS hTA hpl.1 rfl inX3 tyX3 tyX3_ok nmX3 0 (by decide) q1_77 rfl (ty := tyX3 0) (by decide) rfl rfl dX3_startAnew_2 (fun H1 locs2 hP hS hz4 => ?_)
  obtain ⟨O3, hO3, hP⟩ : ∃ X : gO, X = au O b 0 (.int (nI nn)) ∧ gP G T I J Q X H1 := ⟨_, rfl, hP⟩
  refine lv_iconst (v := nI 0) hx hb dX3_startAnew_5 (by decide) ?_
  refine lv_istore_n (lv' := [(2, .int (nI 0)), (0, .ref b), (1, .int (nI nn))]) hx hb dX3_startAnew_6 rfl hl (by decide) rfl (fun ls hl => ?_)
  have L7 : ∀ (n7 : Nat) (i : Nat) (I2 : gI), 17 ≤ n7 + i → (i ≤ 16) → (I2 = gu I (b + 9) (z16 (I (b + 9)) i)) → ∀ (Hl : Heap) (lcl : List Loc), gP G T I2 J Q O3 Hl → va_S A s.heap Hl lcl → ∀ ls : Array Slot, lv_has ls 3 [(0, .ref b), (1, .int (nI nn)), (2, .int (nI i))] → W p l e ({ frames := 0, cells := 0, slots := 0, locals := 0 } : Room) s m [.ref b, .int (nI nn)].toArray below meth c Hl lcl 0 0 (MQ below (gQc A (fun r H1 => r = none ∧ gP G T (gu I (b + 9) (z16 (I (b + 9)) 16)) J Q (au O b 0 (.int (nI nn))) H1)) [.ref b, .int (nI nn)].toArray s 0 0 A) (F0 m 7 ls []) := by
    intro n7
    induction n7 with
    | zero => intro i I2 hn7 hi h1; exact absurd hn7 (by omega)
    | succ n7 ih7 =>
      intro i I2 hn7 hi h1 Hl lcl hP hS ls hl
      refine lv_iload_n hx hb dX3_startAnew_7 rfl (lv_at hl 2 rfl) ?_
      refine lv_aload_n hx hb dX3_startAnew_8 rfl (lv_at hl 0 rfl) ?_
      have ho5 : O3 b 2 = .ref (b + 9) := by rw [hO3, au_row, gu_ne _ _ (by decide)]; exact hpl.2.2.2.1
      refine g_get hC hP hpl.1 rfl inX3 2 (by decide) q1_81 ho5 dX3_startAnew_9 ?_
      refine g_alenI hC hP hpl.2.2.2.2.2.2.1 dX3_startAnew_12 ?_
      refine lv_icmp_ge (tgt := 29) hx hb dX3_startAnew_13 (by decide) (fun c13 => ?_) (fun c13 => ?_)
      · have c13 := (nI_leI (by omega) (by omega)).mp c13
        refine g_retcv hC hS ?_ dX3_startAnew_29
        refine ⟨rfl, ?_⟩
        have e : i = 16 := by omega
        subst e
        subst h1
        simpa only [*] using hP
      · have c13 := mt (nI_leI (by omega) (by omega)).mpr c13
        refine lv_aload_n hx hb dX3_startAnew_16 rfl (lv_at hl 0 rfl) ?_
        refine g_get hC hP hpl.1 rfl inX3 2 (by decide) q1_81 ho5 dX3_startAnew_17 ?_
        refine lv_iload_n hx hb dX3_startAnew_20 rfl (lv_at hl 2 rfl) ?_
        refine lv_iconst (v := nI 0) hx hb dX3_startAnew_21 (by decide) ?_
        refine g_iast hC hP hS hTA hpl.2.2.2.2.2.2.1 (vp_in_nI (by omega) (by decide)) dX3_startAnew_22 (fun H6 locs7 hP hS hz9 => ?_)
        rw [show (nI i).toNatClampNeg = i from nI_clamp (by omega)] at hP
        obtain ⟨I8, hI8, hP⟩ : ∃ X : gI, X = au I2 (b + 9) i (nI 0) ∧ gP G T X J Q O3 H6 := ⟨_, rfl, hP⟩
        refine lv_iinc (v := nI (i + 1)) (lv' := [(2, .int (nI (i + 1))), (0, .ref b), (1, .int (nI nn))]) hx hb dX3_startAnew_23 hl (k := 2) rfl (nI_inc _) (by decide) rfl (fun ls hl => ?_)
        refine lv_goto (tgt := 7) hx hb dX3_startAnew_26 (by decide) ?_
        exact ih7 (i + 1) I8 (by omega) (by omega) (by rw [hI8, h1, au_gu]; exact congrArg _ (z16_s _ _)) _ _ hP hS ls (lv_sub hl [1, 2, 0] rfl)
  exact L7 17 0 I (by omega) (by omega) (by rw [show z16 (I (b + 9)) 0 = I (b + 9) from funext fun j => by simp [z16], gu_self]) _ _ hP hS ls (lv_sub hl [1, 2, 0] rfl)
set_option maxHeartbeats 4000000 in
set_option maxRecDepth 100000 in
theorem c_X3_setPay (l : Launch) {G : gG} {T : gTy} {I : gI} {J : gJ} {Q : gR} {O : gO} {H : Heap} (hP : gP G T I J Q O H) {b ch i k : Nat} {v : Int32} (hpl : isPl T O b ch) (hi : i < 4) (hk : k < 4) : Met l yX3_setPay (gw yX3_setPay cX3_setPay 4 (none)) ({ frames := 0, cells := 0, slots := 0, locals := 0 } : Room) (gPc G H [.ref b, .int (nI i), .int (nI k), .int v]) (gQc (gF T H) (fun r H1 => r = none ∧ gP G T (au I (b + 9) (i * 4 + k) v) J Q O H1)) 0 0 (gF T H) := by
  refine g_met [(0, .ref b), (1, .int (nI i)), (2, .int (nI k)), (3, .int v)] (by decide) rfl (by exact Nat.le_of_ble_eq_true rfl) ?_
  intro p e s m below meth c hC hs ls hl
  have hx := hC.1.1
  have hb := hC.1.2.1
  have hS : va_S (gF T H) s.heap H [] := hs ▸ va_S.rf
  have hTA : ∀ q, (T q).1 ≠ 0 → gF T H q := fun q h => Or.inl h
  have hA : ∀ q, s.heap.size ≤ q → gF T H q := fun q h => Or.inr (hs ▸ h)
  generalize hAe : gF T H = A at hS hTA hA ⊢
  have hpl_lo := hpl.2.2.2.2.2.2.2.2.1
  have hpl_hi := hpl.2.2.2.2.2.2.2.2.2
  refine lv_aload_n hx hb dX3_setPay_0 rfl (lv_at hl 0 rfl) ?_
  refine g_get hC hP hpl.1 rfl inX3 2 (by decide) q1_81 hpl.2.2.2.1 dX3_setPay_1 ?_
  refine lv_iload_n hx hb dX3_setPay_4 rfl (lv_at hl 1 rfl) ?_
  refine lv_iconst (v := nI 4) hx hb dX3_setPay_5 (by decide) ?_
  refine lv_imul hx hb dX3_setPay_6 ?_
  refine g_topi (y := nI (i * 4)) (nI_mul _ _) ?_
  refine lv_iload_n hx hb dX3_setPay_7 rfl (lv_at hl 2 rfl) ?_
  refine lv_iadd hx hb dX3_setPay_8 ?_
  refine g_topi (y := nI (i * 4 + k)) (nI_add _ _) ?_
  refine lv_iload_n hx hb dX3_setPay_9 rfl (lv_at hl 3 rfl) ?_
  refine g_iast hC hP hS hTA hpl.2.2.2.2.2.2.1 (vp_in_nI (by omega) (by decide)) dX3_setPay_10 (fun H1 locs2 hP hS hz4 => ?_)
  rw [show (nI (i * 4 + k)).toNatClampNeg = i * 4 + k from nI_clamp (by omega)] at hP
  obtain ⟨I3, hI3, hP⟩ : ∃ X : gI, X = au I (b + 9) (i * 4 + k) v ∧ gP G T X J Q O H1 := ⟨_, rfl, hP⟩
  refine g_retcv hC hS ?_ dX3_setPay_11
  refine ⟨rfl, ?_⟩
  simpa only [*] using hP
set_option maxHeartbeats 4000000 in
set_option maxRecDepth 100000 in
theorem c_X3_changeWeight (l : Launch) {G : gG} {T : gTy} {I : gI} {J : gJ} {Q : gR} {O : gO} {H : Heap} (hP : gP G T I J Q O H) {b ch k : Nat} {v : Int32} (hpl : isPl T O b ch) (hk : k < 4) : Met l yX3_changeWeight (gw yX3_changeWeight cX3_changeWeight 4 (some (.int))) ({ frames := 0, cells := 0, slots := 0, locals := 0 } : Room) (gPc G H [.ref b, .int (nI k), .int v]) (gQc (gF T H) (fun r H1 => r = some (.int (I (b + 10) k)) ∧ gP G T (au I (b + 10) k v) J Q O H1)) 0 0 (gF T H) := by
  refine g_met [(0, .ref b), (1, .int (nI k)), (2, .int v)] (by decide) rfl (by exact Nat.le_of_ble_eq_true rfl) ?_
  intro p e s m below meth c hC hs ls hl
  have hx := hC.1.1
  have hb := hC.1.2.1
  have hS : va_S (gF T H) s.heap H [] := hs ▸ va_S.rf
  have hTA : ∀ q, (T q).1 ≠ 0 → gF T H q := fun q h => Or.inl h
  have hA : ∀ q, s.heap.size ≤ q → gF T H q := fun q h => Or.inr (hs ▸ h)
  generalize hAe : gF T H = A at hS hTA hA ⊢
  have hpl_lo := hpl.2.2.2.2.2.2.2.2.1
  have hpl_hi := hpl.2.2.2.2.2.2.2.2.2
  refine lv_aload_n hx hb dX3_changeWeight_0 rfl (lv_at hl 0 rfl) ?_
  refine g_get hC hP hpl.1 rfl inX3 3 (by decide) q1_82 hpl.2.2.2.2.1 dX3_changeWeight_1 ?_
  refine lv_iload_n hx hb dX3_changeWeight_4 rfl (lv_at hl 1 rfl) ?_
  refine g_iald hC hP hpl.2.2.2.2.2.2.2.1 (vp_in_nI (by omega) (by decide)) dX3_changeWeight_5 ?_
  refine g_topi (y := I (b + 10) k) (congrArg (I (b + 10)) (nI_clamp (by omega))) ?_
  refine lv_istore_n (lv' := [(3, .int (I (b + 10) k)), (0, .ref b), (1, .int (nI k)), (2, .int v)]) hx hb dX3_changeWeight_6 rfl hl (by decide) rfl (fun ls hl => ?_)
  refine lv_aload_n hx hb dX3_changeWeight_7 rfl (lv_at hl 1 rfl) ?_
  refine g_get hC hP hpl.1 rfl inX3 3 (by decide) q1_82 hpl.2.2.2.2.1 dX3_changeWeight_8 ?_
  refine lv_iload_n hx hb dX3_changeWeight_11 rfl (lv_at hl 2 rfl) ?_
  refine lv_iload_n hx hb dX3_changeWeight_12 rfl (lv_at hl 3 rfl) ?_
  refine g_iast hC hP hS hTA hpl.2.2.2.2.2.2.2.1 (vp_in_nI (by omega) (by decide)) dX3_changeWeight_13 (fun H1 locs2 hP hS hz4 => ?_)
  rw [show (nI k).toNatClampNeg = k from nI_clamp (by omega)] at hP
  obtain ⟨I3, hI3, hP⟩ : ∃ X : gI, X = au I (b + 10) k v ∧ gP G T X J Q O H1 := ⟨_, rfl, hP⟩
  refine lv_iload_n hx hb dX3_changeWeight_14 rfl (lv_at hl 0 rfl) ?_
  refine g_retci hC hS ?_ dX3_changeWeight_15
  refine ⟨rfl, ?_⟩
  simpa only [*] using hP
set_option maxHeartbeats 4000000 in
set_option maxRecDepth 100000 in
theorem c_X3_addAgainst (l : Launch) {G : gG} {T : gTy} {I : gI} {J : gJ} {Q : gR} {O : gO} {H : Heap} (hP : gP G T I J Q O H) {b ch k : Nat} {v : Int32} (hpl : isPl T O b ch) (hk : k < 4) : Met l yX3_addAgainst (gw yX3_addAgainst cX3_addAgainst 4 (none)) ({ frames := 1, cells := 0, slots := 0, locals := 23 } : Room) (gPc G H [.ref b, .int (nI k), .int v]) (gQc (gF T H) (fun r H1 => r = none ∧ gP G T (gu I (b + 9) (addA (I (b + 9)) ch k v)) J Q O H1)) 0 0 (gF T H) := by
  refine g_met [(0, .ref b), (1, .int (nI k)), (2, .int v)] (by decide) rfl (by exact Nat.le_of_ble_eq_true rfl) ?_
  intro p e s m below meth c hC hs ls hl
  have hx := hC.1.1
  have hb := hC.1.2.1
  have hS : va_S (gF T H) s.heap H [] := hs ▸ va_S.rf
  have hTA : ∀ q, (T q).1 ≠ 0 → gF T H q := fun q h => Or.inl h
  have hA : ∀ q, s.heap.size ≤ q → gF T H q := fun q h => Or.inr (hs ▸ h)
  generalize hAe : gF T H = A at hS hTA hA ⊢
  have hpl_lo := hpl.2.2.2.2.2.2.2.2.1
  have hpl_hi := hpl.2.2.2.2.2.2.2.2.2
  refine lv_iconst (v := nI 0) hx hb dX3_addAgainst_0 (by decide) ?_
  refine lv_istore_n (lv' := [(3, .int (nI 0)), (0, .ref b), (1, .int (nI k)), (2, .int v)]) hx hb dX3_addAgainst_1 rfl hl (by decide) rfl (fun ls hl => ?_)
  have L2 : ∀ (n2 : Nat) (i : Nat) (I2 : gI), 5 ≤ n2 + i → (i ≤ ch) → (I2 = gu I (b + 9) (addA (I (b + 9)) i k v)) → ∀ (Hl : Heap) (lcl : List Loc), gP G T I2 J Q O Hl → va_S A s.heap Hl lcl → ∀ ls : Array Slot, lv_has ls 4 [(0, .ref b), (1, .int (nI k)), (2, .int v), (3, .int (nI i))] → W p l e ({ frames := 1, cells := 0, slots := 0, locals := 23 } : Room) s m [.ref b, .int (nI k), .int v].toArray below meth c Hl lcl 0 0 (MQ below (gQc A (fun r H1 => r = none ∧ gP G T (gu I (b + 9) (addA (I (b + 9)) ch k v)) J Q O H1)) [.ref b, .int (nI k), .int v].toArray s 0 0 A) (F0 m 2 ls []) := by
    intro n2
    induction n2 with
    | zero => intro i I2 hn2 hi h1; exact absurd hn2 (by omega)
    | succ n2 ih2 =>
      intro i I2 hn2 hi h1 Hl lcl hP hS ls hl
      refine lv_iload_n hx hb dX3_addAgainst_2 rfl (lv_at hl 3 rfl) ?_
      refine lv_aload_n hx hb dX3_addAgainst_3 rfl (lv_at hl 0 rfl) ?_
      refine g_get hC hP hpl.1 rfl inX3 0 (by decide) q1_77 hpl.2.1 dX3_addAgainst_4 ?_
      refine lv_icmp_ge (tgt := 30) hx hb dX3_addAgainst_7 (by decide) (fun c7 => ?_) (fun c7 => ?_)
      · have c7 := (nI_leI (by omega) (by omega)).mp c7
        refine g_retcv hC hS ?_ dX3_addAgainst_30
        refine ⟨rfl, ?_⟩
        have e : i = ch := by omega
        subst e
        subst h1
        exact hP
      · have c7 := mt (nI_leI (by omega) (by omega)).mpr c7
        refine lv_aload_n hx hb dX3_addAgainst_10 rfl (lv_at hl 0 rfl) ?_
        refine lv_iload_n hx hb dX3_addAgainst_11 rfl (lv_at hl 3 rfl) ?_
        refine lv_iload_n hx hb dX3_addAgainst_12 rfl (lv_at hl 1 rfl) ?_
        refine lv_aload_n hx hb dX3_addAgainst_13 rfl (lv_at hl 0 rfl) ?_
        refine lv_iload_n hx hb dX3_addAgainst_14 rfl (lv_at hl 3 rfl) ?_
        refine lv_iload_n hx hb dX3_addAgainst_15 rfl (lv_at hl 1 rfl) ?_
        refine g_cp (g_rV (As := [.int (nI i), .int (nI k)]) hC hP (c_X3_payFor l hP (b := b) (ch := ch) (i := i) (k := k) (by first | assumption | omega) (by first | assumption | omega) (by first | assumption | omega)) hpl.1 rfl ⟨q1_170, q1_216, q1_168, q1_169, q1_2⟩ dd_X3_payFor ⟨Nat.le_of_ble_eq_true rfl, Nat.le_of_ble_eq_true rfl, rfl, rfl⟩ hl.1 rfl (Nat.le_of_ble_eq_true rfl) dX3_addAgainst_16 ⟨Nat.le_of_ble_eq_true rfl, Nat.le_of_ble_eq_true rfl⟩) ?_
        refine W.eq (g2 := F0 m 19 ls [.int (I2 (b + 9) (i * 4 + k)), .int (nI k), .int (nI i), .ref b]) rfl ?_
        refine lv_iload_n hx hb dX3_addAgainst_19 rfl (lv_at hl 2 rfl) ?_
        refine lv_iadd hx hb dX3_addAgainst_20 ?_
        refine g_cc (g_rV (As := [.int (nI i), .int (nI k), .int ((I2 (b + 9) (i * 4 + k)) + v)]) hC hP (c_X3_setPay l hP (b := b) (ch := ch) (i := i) (k := k) (v := (I2 (b + 9) (i * 4 + k)) + v) (by first | assumption | omega) (by first | assumption | omega) (by first | assumption | omega)) hpl.1 rfl ⟨q1_174, q2_208, q1_172, q1_173, q1_2⟩ dd_X3_setPay ⟨Nat.le_of_ble_eq_true rfl, Nat.le_of_ble_eq_true rfl, rfl, rfl⟩ hl.1 rfl (Nat.le_of_ble_eq_true rfl) dX3_addAgainst_21 ⟨Nat.le_of_ble_eq_true rfl, Nat.le_of_ble_eq_true rfl⟩) hS (fun q h => h.elim (hTA q) (fun z => hA q (Nat.le_trans hS.1 z))) (fun r5 H1 locs2 hq6 hS hz3 hfr4 => ?_)
        obtain ⟨rfl, hP⟩ := hq6
        obtain ⟨I7, hI7, hP⟩ : ∃ I7 : gI, I7 = au I2 (b + 9) (i * 4 + k) ((I2 (b + 9) (i * 4 + k)) + v) ∧ gP G T I7 J Q O H1 := ⟨_, rfl, hP⟩
        refine W.eq (g2 := F0 m 24 ls []) rfl ?_
        refine lv_iinc (v := nI (i + 1)) (lv' := [(3, .int (nI (i + 1))), (0, .ref b), (1, .int (nI k)), (2, .int v)]) hx hb dX3_addAgainst_24 hl (k := 3) rfl (nI_inc _) (by decide) rfl (fun ls hl => ?_)
        refine lv_goto (tgt := 2) hx hb dX3_addAgainst_27 (by decide) ?_
        exact ih2 (i + 1) I7 (by omega) (by omega) (by rw [hI7, h1, au_gu, gu_eq, addA_at _ hk]; exact congrArg _ (addA_s _ hk _)) _ _ hP hS ls (lv_sub hl [1, 2, 3, 0] rfl)
  exact L2 5 0 I (by omega) (by omega) (by rw [addA_0, gu_self]) _ _ hP hS ls (lv_sub hl [1, 2, 3, 0] rfl)
set_option maxHeartbeats 4000000 in
set_option maxRecDepth 100000 in
theorem c_X3_multiplyPays (l : Launch) {G : gG} {T : gTy} {I : gI} {J : gJ} {Q : gR} {O : gO} {H : Heap} (hP : gP G T I J Q O H) {b ch : Nat} {v : Int32} (hpl : isPl T O b ch) : Met l yX3_multiplyPays (gw yX3_multiplyPays cX3_multiplyPays 3 (none)) ({ frames := 0, cells := 0, slots := 0, locals := 0 } : Room) (gPc G H [.ref b, .int v]) (gQc (gF T H) (fun r H1 => r = none ∧ gP G T (gu I (b + 9) (mulA (I (b + 9)) 16 v)) J Q O H1)) 0 0 (gF T H) := by
  refine g_met [(0, .ref b), (1, .int v)] (by decide) rfl (by exact Nat.le_of_ble_eq_true rfl) ?_
  intro p e s m below meth c hC hs ls hl
  have hx := hC.1.1
  have hb := hC.1.2.1
  have hS : va_S (gF T H) s.heap H [] := hs ▸ va_S.rf
  have hTA : ∀ q, (T q).1 ≠ 0 → gF T H q := fun q h => Or.inl h
  have hA : ∀ q, s.heap.size ≤ q → gF T H q := fun q h => Or.inr (hs ▸ h)
  generalize hAe : gF T H = A at hS hTA hA ⊢
  have hpl_lo := hpl.2.2.2.2.2.2.2.2.1
  have hpl_hi := hpl.2.2.2.2.2.2.2.2.2
  refine lv_iconst (v := nI 0) hx hb dX3_multiplyPays_0 (by decide) ?_
  refine lv_istore_n (lv' := [(2, .int (nI 0)), (0, .ref b), (1, .int v)]) hx hb dX3_multiplyPays_1 rfl hl (by decide) rfl (fun ls hl => ?_)
  have L2 : ∀ (n2 : Nat) (i : Nat) (I2 : gI), 17 ≤ n2 + i → (i ≤ 16) → (I2 = gu I (b + 9) (mulA (I (b + 9)) i v)) → ∀ (Hl : Heap) (lcl : List Loc), gP G T I2 J Q O Hl → va_S A s.heap Hl lcl → ∀ ls : Array Slot, lv_has ls 3 [(0, .ref b), (1, .int v), (2, .int (nI i))] → W p l e ({ frames := 0, cells := 0, slots := 0, locals := 0 } : Room) s m [.ref b, .int v].toArray below meth c Hl lcl 0 0 (MQ below (gQc A (fun r H1 => r = none ∧ gP G T (gu I (b + 9) (mulA (I (b + 9)) 16 v)) J Q O H1)) [.ref b, .int v].toArray s 0 0 A) (F0 m 2 ls []) := by
    intro n2
    induction n2 with
    | zero => intro i I2 hn2 hi h1; exact absurd hn2 (by omega)
    | succ n2 ih2 =>
      intro i I2 hn2 hi h1 Hl lcl hP hS ls hl
      refine lv_iload_n hx hb dX3_multiplyPays_2 rfl (lv_at hl 2 rfl) ?_
      refine lv_aload_n hx hb dX3_multiplyPays_3 rfl (lv_at hl 0 rfl) ?_
      refine g_get hC hP hpl.1 rfl inX3 2 (by decide) q1_81 hpl.2.2.2.1 dX3_multiplyPays_4 ?_
      refine g_alenI hC hP hpl.2.2.2.2.2.2.1 dX3_multiplyPays_7 ?_
      refine lv_icmp_ge (tgt := 27) hx hb dX3_multiplyPays_8 (by decide) (fun c8 => ?_) (fun c8 => ?_)
      · have c8 := (nI_leI (by omega) (by omega)).mp c8
        refine g_retcv hC hS ?_ dX3_multiplyPays_27
        refine ⟨rfl, ?_⟩
        have e : i = 16 := by omega
        subst e
        subst h1
        exact hP
      · have c8 := mt (nI_leI (by omega) (by omega)).mpr c8
        refine lv_aload_n hx hb dX3_multiplyPays_11 rfl (lv_at hl 0 rfl) ?_
        refine g_get hC hP hpl.1 rfl inX3 2 (by decide) q1_81 hpl.2.2.2.1 dX3_multiplyPays_12 ?_
        refine lv_iload_n hx hb dX3_multiplyPays_15 rfl (lv_at hl 2 rfl) ?_
        refine lv_dup2_11 hx hb dX3_multiplyPays_16 rfl rfl ?_
        refine g_iald hC hP hpl.2.2.2.2.2.2.1 (vp_in_nI (by omega) (by decide)) dX3_multiplyPays_17 ?_
        refine g_topi (y := I2 (b + 9) i) (congrArg (I2 (b + 9)) (nI_clamp (by omega))) ?_
        refine lv_iload_n hx hb dX3_multiplyPays_18 rfl (lv_at hl 1 rfl) ?_
        refine lv_imul hx hb dX3_multiplyPays_19 ?_
        refine g_iast hC hP hS hTA hpl.2.2.2.2.2.2.1 (vp_in_nI (by omega) (by decide)) dX3_multiplyPays_20 (fun H1 locs2 hP hS hz4 => ?_)
        rw [show (nI i).toNatClampNeg = i from nI_clamp (by omega)] at hP
        obtain ⟨I3, hI3, hP⟩ : ∃ X : gI, X = au I2 (b + 9) i ((I2 (b + 9) i) * v) ∧ gP G T X J Q O H1 := ⟨_, rfl, hP⟩
        refine lv_iinc (v := nI (i + 1)) (lv' := [(2, .int (nI (i + 1))), (0, .ref b), (1, .int v)]) hx hb dX3_multiplyPays_21 hl (k := 2) rfl (nI_inc _) (by decide) rfl (fun ls hl => ?_)
        refine lv_goto (tgt := 2) hx hb dX3_multiplyPays_24 (by decide) ?_
        exact ih2 (i + 1) I3 (by omega) (by omega) (by rw [hI3, h1, au_gu, gu_eq]; exact congrArg _ (mulA_s _ _ _)) _ _ hP hS ls (lv_sub hl [1, 2, 0] rfl)
  exact L2 17 0 I (by omega) (by omega) (by rw [show mulA (I (b + 9)) 0 v = I (b + 9) from funext fun j => by simp [mulA], gu_self]) _ _ hP hS ls (lv_sub hl [1, 2, 0] rfl)
set_option maxHeartbeats 4000000 in
set_option maxRecDepth 100000 in
theorem c_X2_sumUp (l : Launch) {G : gG} {T : gTy} {I : gI} {J : gJ} {Q : gR} {O : gO} {H : Heap} (hP : gP G T I J Q O H) {x : Nat} (hmx : isMx T O x) : Met l yX2_sumUp (gw yX2_sumUp cX2_sumUp 2 (none)) ({ frames := 0, cells := 0, slots := 0, locals := 0 } : Room) (gPc G H [.ref x]) (gQc (gF T H) (fun r H1 => r = none ∧ gP G T I J Q (au (au O x 1 (.long (tsum (J (x + 1)) 4))) x 2 (.int (nI (usedB (J (x + 1)) 4)))) H1)) 0 0 (gF T H) := by
  refine g_met [(0, .ref x)] (by decide) rfl (by exact Nat.le_of_ble_eq_true rfl) ?_
  intro p e s m below meth c hC hs ls hl
  have hx := hC.1.1
  have hb := hC.1.2.1
  have hS : va_S (gF T H) s.heap H [] := hs ▸ va_S.rf
  have hTA : ∀ q, (T q).1 ≠ 0 → gF T H q := fun q h => Or.inl h
  have hA : ∀ q, s.heap.size ≤ q → gF T H q := fun q h => Or.inr (hs ▸ h)
  generalize hAe : gF T H = A at hS hTA hA ⊢
  refine lv_aload_n hx hb dX2_sumUp_0 rfl (lv_at hl 0 rfl) ?_
  refine lv_lconst (v := 0) hx hb dX2_sumUp_1 (by decide) ?_
  refine g_put hC hP hS hTA hmx.1 rfl inX2 tyX2 tyX2_ok nmX2 1 (by decide) q1_40 rfl (ty := tyX2 1) (by decide) rfl rfl dX2_sumUp_2 (fun H1 locs2 hP hS hz4 => ?_)
  obtain ⟨O3, hO3, hP⟩ : ∃ X : gO, X = au O x 1 (.long (0 : Int64)) ∧ gP G T I J Q X H1 := ⟨_, rfl, hP⟩
  refine lv_aload_n hx hb dX2_sumUp_5 rfl (lv_at hl 0 rfl) ?_
  refine lv_iconst (v := nI 0) hx hb dX2_sumUp_6 (by decide) ?_
  refine g_put hC hP hS hTA hmx.1 rfl inX2 tyX2 tyX2_ok nmX2 2 (by decide) q1_43 rfl (ty := tyX2 2) (by decide) rfl rfl dX2_sumUp_7 (fun H5 locs6 hP hS hz8 => ?_)
  obtain ⟨O7, hO7, hP⟩ : ∃ X : gO, X = au O3 x 2 (.int (nI 0)) ∧ gP G T I J Q X H5 := ⟨_, rfl, hP⟩
  refine lv_iconst (v := nI 0) hx hb dX2_sumUp_10 (by decide) ?_
  refine lv_istore_n (lv' := [(1, .int (nI 0)), (0, .ref x)]) hx hb dX2_sumUp_11 rfl hl (by decide) rfl (fun ls hl => ?_)
  have L12 : ∀ (n12 : Nat) (i : Nat) (O2 : gO), 5 ≤ n12 + i → (i ≤ 4) → (O2 = au (au O x 1 (.long (tsum (J (x + 1)) i))) x 2 (.int (nI (usedB (J (x + 1)) i)))) → ∀ (Hl : Heap) (lcl : List Loc), gP G T I J Q O2 Hl → va_S A s.heap Hl lcl → ∀ ls : Array Slot, lv_has ls 2 [(0, .ref x), (1, .int (nI i))] → W p l e ({ frames := 0, cells := 0, slots := 0, locals := 0 } : Room) s m [.ref x].toArray below meth c Hl lcl 0 0 (MQ below (gQc A (fun r H1 => r = none ∧ gP G T I J Q (au (au O x 1 (.long (tsum (J (x + 1)) 4))) x 2 (.int (nI (usedB (J (x + 1)) 4)))) H1)) [.ref x].toArray s 0 0 A) (F0 m 12 ls []) := by
    intro n12
    induction n12 with
    | zero => intro i O2 hn12 hi h1; exact absurd hn12 (by omega)
    | succ n12 ih12 =>
      intro i O2 hn12 hi h1 Hl lcl hP hS ls hl
      have f0 : O2 x 0 = .ref (x + 1) := by rw [h1, au_row, gu_ne _ _ (by decide), au_row, gu_ne _ _ (by decide)]; exact hmx.2.1
      have f1 : O2 x 1 = .long (tsum (J (x + 1)) i) := by rw [h1, au_row, gu_ne _ _ (by decide), au_row, gu_eq]
      have f2 : O2 x 2 = .int (nI (usedB (J (x + 1)) i)) := by rw [h1, au_row, gu_eq]
      have hu : usedB (J (x + 1)) i < 16 := msk_lt16 _ hi
      refine lv_iload_n hx hb dX2_sumUp_12 rfl (lv_at hl 1 rfl) ?_
      refine lv_iconst (v := nI 4) hx hb dX2_sumUp_13 (by decide) ?_
      refine lv_icmp_ge (tgt := 61) hx hb dX2_sumUp_14 (by decide) (fun c14 => ?_) (fun c14 => ?_)
      · have c14 := (nI_leI (by omega) (by omega)).mp c14
        refine g_retcv hC hS ?_ dX2_sumUp_61
        refine ⟨rfl, ?_⟩
        have e : i = 4 := by omega
        subst e
        subst h1
        exact hP
      · have c14 := mt (nI_leI (by omega) (by omega)).mpr c14
        have hp2 := pow_lt16 (k := i) (by omega)
        refine lv_aload_n hx hb dX2_sumUp_17 rfl (lv_at hl 0 rfl) ?_
        refine lv_dup hx hb dX2_sumUp_18 rfl ?_
        refine g_get hC hP hmx.1 rfl inX2 1 (by decide) q1_40 f1 dX2_sumUp_19 ?_
        refine lv_aload_n hx hb dX2_sumUp_22 rfl (lv_at hl 0 rfl) ?_
        refine g_get hC hP hmx.1 rfl inX2 0 (by decide) q1_36 f0 dX2_sumUp_23 ?_
        refine lv_iload_n hx hb dX2_sumUp_26 rfl (lv_at hl 1 rfl) ?_
        refine g_lald hC hP hmx.2.2 (vp_in_nI (by omega) (by decide)) dX2_sumUp_27 ?_
        refine g_topl (y := J (x + 1) i) (congrArg (J (x + 1)) (nI_clamp (by omega))) ?_
        refine lv_ladd hx hb dX2_sumUp_28 ?_
        refine g_put hC hP hS hTA hmx.1 rfl inX2 tyX2 tyX2_ok nmX2 1 (by decide) q1_40 rfl (ty := tyX2 1) (by decide) rfl rfl dX2_sumUp_29 (fun H9 locs10 hP hS hz12 => ?_)
        obtain ⟨O11, hO11, hP⟩ : ∃ X : gO, X = au O2 x 1 (.long ((tsum (J (x + 1)) i) + (J (x + 1) i))) ∧ gP G T I J Q X H9 := ⟨_, rfl, hP⟩
        refine lv_aload_n hx hb dX2_sumUp_32 rfl (lv_at hl 0 rfl) ?_
        have ho13 : O11 x 0 = .ref (x + 1) := by rw [hO11, au_row, gu_ne _ _ (by decide)]; exact f0
        refine g_get hC hP hmx.1 rfl inX2 0 (by decide) q1_36 ho13 dX2_sumUp_33 ?_
        refine lv_iload_n hx hb dX2_sumUp_36 rfl (lv_at hl 1 rfl) ?_
        refine g_lald hC hP hmx.2.2 (vp_in_nI (by omega) (by decide)) dX2_sumUp_37 ?_
        refine g_topl (y := J (x + 1) i) (congrArg (J (x + 1)) (nI_clamp (by omega))) ?_
        refine lv_lconst (v := 0) hx hb dX2_sumUp_38 (by decide) ?_
        refine W.lcmp hx hb dX2_sumUp_39 ?_
        refine lv_if_le (tgt := 55) hx hb dX2_sumUp_40 (by decide) (fun c40 => ?_) (fun c40 => ?_)
        · have c40 := (lg_cmp_le _ _).mp c40
          have d40 := Int64.not_lt.mpr c40
          refine lv_iinc (v := nI (i + 1)) (lv' := [(1, .int (nI (i + 1))), (0, .ref x)]) hx hb dX2_sumUp_55 hl (k := 1) rfl (nI_inc _) (by decide) rfl (fun ls hl => ?_)
          refine lv_goto (tgt := 12) hx hb dX2_sumUp_58 (by decide) ?_
          exact ih12 (i + 1) O11 (by omega) (by omega) (by simp only [hO11, *, usedB, msk, tsum]; simp only [au, gu_eq, gu_gu]; congr 1; funext j; simp only [gu]; (repeat split) <;> simp_all [d40]) _ _ hP hS ls (lv_sub hl [1, 0] rfl)
        · have c40 := mt (lg_cmp_le _ _).mpr c40
          have d40 := Int64.not_le.mp c40
          refine lv_aload_n hx hb dX2_sumUp_43 rfl (lv_at hl 0 rfl) ?_
          refine lv_dup hx hb dX2_sumUp_44 rfl ?_
          have ho14 : O11 x 2 = .int (nI (usedB (J (x + 1)) i)) := by rw [hO11, au_row, gu_ne _ _ (by decide)]; exact f2
          refine g_get hC hP hmx.1 rfl inX2 2 (by decide) q1_43 ho14 dX2_sumUp_45 ?_
          refine lv_iconst (v := nI 1) hx hb dX2_sumUp_48 (by decide) ?_
          refine lv_iload_n hx hb dX2_sumUp_49 rfl (lv_at hl 1 rfl) ?_
          refine lv_ishl hx hb dX2_sumUp_50 ?_
          refine g_topi (y := nI (2 ^ i)) (g_shl (by omega)) ?_
          refine lv_ior hx hb dX2_sumUp_51 ?_
          refine g_topi (y := nI ((usedB (J (x + 1)) i) ||| (2 ^ i))) (g_or (by omega) (by omega)) ?_
          refine g_put hC hP hS hTA hmx.1 rfl inX2 tyX2 tyX2_ok nmX2 2 (by decide) q1_43 rfl (ty := tyX2 2) (by decide) rfl rfl dX2_sumUp_52 (fun H15 locs16 hP hS hz18 => ?_)
          obtain ⟨O17, hO17, hP⟩ : ∃ X : gO, X = au O11 x 2 (.int (nI ((usedB (J (x + 1)) i) ||| (2 ^ i)))) ∧ gP G T I J Q X H15 := ⟨_, rfl, hP⟩
          refine lv_iinc (v := nI (i + 1)) (lv' := [(1, .int (nI (i + 1))), (0, .ref x)]) hx hb dX2_sumUp_55 hl (k := 1) rfl (nI_inc _) (by decide) rfl (fun ls hl => ?_)
          refine lv_goto (tgt := 12) hx hb dX2_sumUp_58 (by decide) ?_
          exact ih12 (i + 1) O17 (by omega) (by omega) (by simp only [hO17, *, usedB, msk, tsum]; simp only [au, gu_eq, gu_gu]; congr 1; funext j; simp only [gu]; (repeat split) <;> simp_all [d40]) _ _ hP hS ls (lv_sub hl [1, 0] rfl)
  exact L12 5 0 O7 (by omega) (by omega) (by simp only [*]; rfl) _ _ hP hS ls (lv_sub hl [1, 0] rfl)
