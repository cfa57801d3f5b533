/-! ===== corners: the places, the gaps, the parts ===== -/
abbrev MixV : Type := (Nat → Int64) × Int64 × Nat × Nat
/-- how many bits of u lie below k; the j-th bit -/
def rnk (u : Nat) : Nat → Nat
  | 0 => 0
  | k + 1 => rnk u k + (if u.testBit k then 1 else 0)
def nth (u j : Nat) : Nat := (fst4 (fun k => u.testBit k && decide (rnk u k = j))).getD 0
theorem rnk_le (u : Nat) : ∀ k, rnk u k ≤ k
  | 0 => Nat.le_refl 0
  | k + 1 => by
    have h := rnk_le u k
    unfold rnk
    split <;> omega
theorem rnk_t {u k : Nat} (h : u.testBit k = true) : rnk u (k + 1) = rnk u k + 1 := by simp [rnk, h]
theorem rnk_f {u k : Nat} (h : u.testBit k = false) : rnk u (k + 1) = rnk u k := by simp [rnk, h]
theorem nth_rnk {u k : Nat} (hu : u < 16) (hk : k < 4) (h : u.testBit k = true) : nth u (rnk u k) = k := by
  have q : ∀ u, u < 16 → ∀ k, k < 4 → u.testBit k = true → nth u (rnk u k) = k := by decide +kernel
  exact q u hu k hk h
theorem nth_fst {u f : Nat} (hu : u < 16) (h : fst4 u.testBit = some f) : nth u 0 = f := by
  have q : ∀ u, u < 16 → ∀ f, f < 4 → fst4 u.testBit = some f → nth u 0 = f := by decide +kernel
  exact q u hu f (fst4_lt h).1 h
theorem rnk_fst {u f : Nat} (hu : u < 16) (h : fst4 u.testBit = some f) : rnk u (f + 1) = 1 := by
  have q : ∀ u, u < 16 → ∀ f, f < 4 → fst4 u.testBit = some f → rnk u (f + 1) = 1 := by decide +kernel
  exact q u hu f (fst4_lt h).1 h
theorem rnk_popc {u : Nat} (hu : u < 16) : rnk u 4 = popc u := by
  have q : ∀ u, u < 16 → rnk u 4 = popc u := by decide +kernel
  exact q u hu
theorem popc_1 {u : Nat} (hu : u < 16) (h : 1 ≤ u) : 1 ≤ popc u ∧ popc u ≤ 4 := by
  have q : ∀ u, u < 16 → 1 ≤ u → 1 ≤ popc u ∧ popc u ≤ 4 := by decide +kernel
  exact q u hu h
theorem rnk_popc_lt {u k : Nat} (hu : u < 16) (hk : k < 4) (h : u.testBit k = true) : rnk u k < popc u := by
  have q : ∀ u, u < 16 → ∀ k, k < 4 → u.testBit k = true → rnk u k < popc u := by decide +kernel
  exact q u hu k hk h
theorem g_rem2 {k : Nat} (h : k < 5) : (nI k - nI k / nI 2 * nI 2) = nI (k % 2) := by
  have q : ∀ k, k < 5 → (nI k - nI k / nI 2 * nI 2) = nI (k % 2) := by decide +kernel
  exact q k h
theorem nI_dec {i : Nat} (h : 1 ≤ i) : nI i + Int32.ofInt (-1) = nI (i - 1) := by
  obtain ⟨j, rfl⟩ : ∃ j, i = j + 1 := ⟨i - 1, by omega⟩
  have e : Int32.ofInt (-1) = -1 := by decide
  rw [e, Nat.add_sub_cancel, ← nI_1, Int32.add_assoc]
  have : (1 : Int32) + -1 = 0 := by decide
  rw [this, Int32.add_zero]
/-- gaps between answers' pays to each used choice -/
def gapM (P : Nat → Int32) (u t : Nat) (line place : Nat) : Int64 := (P (nth t (line + 1) * 4 + nth u place) - P (nth t 0 * 4 + nth u place)).toInt64
def gapRow (X : Nat → Int64) (f : Nat → Int64) (u i : Nat) : Nat → Int64 := fun p => if p < rnk u i then f (nth u p) else X p
theorem gapRow_f {X f : Nat → Int64} {u i : Nat} (h : u.testBit i = false) : gapRow X f u (i + 1) = gapRow X f u i := by
  unfold gapRow; rw [rnk_f h]
theorem gapRow_t {X f : Nat → Int64} {u i : Nat} (hu : u < 16) (hi : i < 4) (h : u.testBit i = true) : gu (gapRow X f u i) (rnk u i) (f i) = gapRow X f u (i + 1) := by
  funext p
  unfold gapRow gu
  rw [rnk_t h]
  by_cases e : p = rnk u i
  · subst e
    rw [if_pos rfl, if_pos (by omega), nth_rnk hu hi h]
  · rw [if_neg e]
    show (if p < rnk u i then f (nth u p) else X p) = _
    by_cases e2 : p < rnk u i
    · rw [if_pos e2, if_pos (by omega)]
    · rw [if_neg e2, if_neg (by omega)]
/-- a used choice's part -/
def partF (M : Nat → Nat → Int64) (u k : Nat) : Int64 := if u.testBit k then (if rnk u k % 2 = 0 then detS M (rnk u k) (popc u - 1) else - detS M (rnk u k) (popc u - 1)) else 0
def parR (M : Nat → Nat → Int64) (u : Nat) (X : Nat → Int64) (i : Nat) : Nat → Int64 := fun j => if j < i then partF M u j else X j
theorem parR_s (M : Nat → Nat → Int64) (u : Nat) (X : Nat → Int64) (i : Nat) : gu (parR M u X i) i (partF M u i) = parR M u X (i + 1) := by
  funext j
  unfold gu parR
  by_cases e : j = i
  · subst e
    rw [if_pos rfl, if_pos (by omega)]
  · rw [if_neg e]
    by_cases h2 : j < i
    · rw [if_pos h2, if_pos (by omega)]
    · rw [if_neg h2, if_neg (by omega)]
theorem detS_congr {M M' : Nat → Nat → Int64} (h : ∀ q, q < 3 → M q = M' q) (place lines : Nat) : detS M place lines = detS M' place lines := by
  have h0 := h 0 (by omega)
  have h1 := h 1 (by omega)
  have h2 := h 2 (by omega)
  unfold detS det2
  rw [h0, h1, h2]
/-- the sign of the first used part -/
def sgnF (X : Nat → Int64) (u : Nat) : Int64 := match fst4 u.testBit with
  | some k => if X k < 0 then -1 else 1
  | none => 1
def posOK (X : Nat → Int64) (u : Nat) : Bool := (List.range 4).all fun k => !u.testBit k || decide (0 < X k * sgnF X u)
theorem posOK_iff {X : Nat → Int64} {u : Nat} : posOK X u = true ↔ ∀ k, k < 4 → u.testBit k = true → 0 < X k * sgnF X u := by
  simp only [posOK, List.all_eq_true, List.mem_range, Bool.or_eq_true, Bool.not_eq_true', decide_eq_true_eq]
  constructor
  · intro h k hk hb
    rcases h k hk with h | h
    · rw [hb] at h; cases h
    · exact h
  · intro h k hk
    by_cases hb : u.testBit k = true
    · exact Or.inr (h k hk hb)
    · exact Or.inl (by simpa using hb)
def mulR (X : Nat → Int64) (v : Int64) (i : Nat) : Nat → Int64 := fun j => if j < i then X j * v else X j
theorem mulR_s (X : Nat → Int64) (v : Int64) (i : Nat) : gu (mulR X v i) i (mulR X v i i * v) = mulR X v (i + 1) := by
  funext j
  unfold gu mulR
  by_cases e : j = i
  · subst e
    simp
  · rw [if_neg e]
    by_cases h2 : j < i
    · rw [if_pos h2, if_pos (by omega)]
    · rw [if_neg h2, if_neg (by omega)]
/-- the places: cnt corners, fill mixes kept, the spare one -/
def coR (T : gTy) (Q : gR) (O : gO) (k cnt fill sp : Nat) (ad : Nat → Nat) : Prop := O k 0 = .int (nI cnt) ∧ O k 2 = .ref sp ∧ cnt ≤ fill ∧ fill ≤ 69 ∧ (∀ j, j < 69 → Q (k + 1) j = if j < fill then some (ad j) else none) ∧ isMx T O sp ∧ (∀ j, j < fill → isMx T O (ad j) ∧ ad j ≠ sp) ∧ (∀ i j, i < fill → j < fill → ad i = ad j → i = j)
theorem sp_ne {T : gTy} {Q : gR} {O : gO} {k sp q : Nat} (hco : coG T Q O k) (hm : isMx T O sp) (hq : q < 3) : k + 5 + q ≠ sp + 1 := by
  intro e
  have h1 := hm.1
  rcases (show q = 0 ∨ q = 1 ∨ q = 2 by omega) with rfl | rfl | rfl
  · rw [show sp = k + 4 by omega, hco.2.2.2.2.1] at h1; simp at h1
  · rw [show sp = k + 5 by omega, hco.2.2.2.2.2.1] at h1; simp at h1
  · rw [show sp = k + 6 by omega, hco.2.2.2.2.2.2.1] at h1; simp at h1
set_option maxHeartbeats 4000000 in
set_option maxRecDepth 100000 in
theorem c_X0_mixAt_in (l : Launch) {G : gG} {T : gTy} {I : gI} {J : gJ} {Q : gR} {O : gO} {H : Heap} (hP : gP G T I J Q O H) {k cnt fill sp j : Nat} {ad : Nat → Nat} (hco : coG T Q O k) (hcr : coR T Q O k cnt fill sp ad) (hj : j < cnt) : Met l yX0_mixAt (gw yX0_mixAt cX0_mixAt 2 (some (.object "GameTables$Mix"))) ({ frames := 0, cells := 0, slots := 0, locals := 0 } : Room) (gPc G H [.ref k, .int (nI j)]) (gQp (some (.ref (ad j)))) 0 0 (fun _ => False) := by
  refine g_met [(0, .ref k), (1, .int (nI j))] (by decide) rfl (by exact Nat.le_of_ble_eq_true rfl) ?_
  intro p e s m below meth c hC hs ls hl
  have hx := hC.1.1
  have hb := hC.1.2.1
  have hcr_c := hcr.2.2.1
  have hcr_f := hcr.2.2.2.1
  refine lv_iload_n hx hb dX0_mixAt_0 rfl (lv_at hl 1 rfl) ?_
  refine lv_if_lt (tgt := 27) hx hb dX0_mixAt_1 (by decide) (fun q => absurd q (nI_pos (by omega))) (fun _ => ?_)
  refine lv_iload_n hx hb dX0_mixAt_4 rfl (lv_at hl 1 rfl) ?_
  refine lv_aload_n hx hb dX0_mixAt_5 rfl (lv_at hl 0 rfl) ?_
  refine g_get hC hP hco.1 rfl inX0 0 (by decide) q1_61 hcr.1 dX0_mixAt_6 ?_
  refine lv_icmp_ge (tgt := 27) hx hb dX0_mixAt_9 (by decide) (fun c9 => ?_) (fun c9 => ?_)
  · have c9 := (nI_leI (by omega) (by omega)).mp c9
    exact absurd c9 (by omega)
  · have c9 := mt (nI_leI (by omega) (by omega)).mpr c9
    refine lv_iload_n hx hb dX0_mixAt_12 rfl (lv_at hl 1 rfl) ?_
    refine lv_bipush (v := nI 69) hx hb dX0_mixAt_13 (by decide) ?_
    refine lv_icmp_ge (tgt := 27) hx hb dX0_mixAt_15 (by decide) (fun c15 => ?_) (fun c15 => ?_)
    · have c15 := (nI_leI (by omega) (by omega)).mp c15
      exact absurd c15 (by omega)
    · have c15 := mt (nI_leI (by omega) (by omega)).mpr c15
      refine lv_aload_n hx hb dX0_mixAt_18 rfl (lv_at hl 0 rfl) ?_
      refine g_get hC hP hco.1 rfl inX0 1 (by decide) q1_63 hco.2.1 dX0_mixAt_19 ?_
      refine lv_iload_n hx hb dX0_mixAt_22 rfl (lv_at hl 1 rfl) ?_
      refine g_aald hC hP hco.2.2.2.1 (vp_in_nI (by omega) (by decide)) (v := .ref (ad j)) (by rw [nI_clamp (by omega), hcr.2.2.2.2.1 j (by omega), if_pos (by omega)]; rfl) dX0_mixAt_23 ?_
      refine lv_goto (tgt := 28) hx hb dX0_mixAt_24 (by decide) ?_
      exact g_reta hC hs rfl (Or.inr ⟨_, rfl⟩) dX0_mixAt_28
set_option maxHeartbeats 4000000 in
set_option maxRecDepth 100000 in
theorem c_X0_mixAt_out (l : Launch) {G : gG} {T : gTy} {I : gI} {J : gJ} {Q : gR} {O : gO} {H : Heap} (hP : gP G T I J Q O H) {k cnt fill sp : Nat} {ad : Nat → Nat} {q : Int32} (hco : coG T Q O k) (hcr : coR T Q O k cnt fill sp ad) (hq : inR q cnt = false) : Met l yX0_mixAt (gw yX0_mixAt cX0_mixAt 2 (some (.object "GameTables$Mix"))) ({ frames := 0, cells := 0, slots := 0, locals := 0 } : Room) (gPc G H [.ref k, .int q]) (gQp (some (.null))) 0 0 (fun _ => False) := by
  refine g_met [(0, .ref k), (1, .int q)] (by decide) rfl (by exact Nat.le_of_ble_eq_true rfl) ?_
  intro p e s m below meth c hC hs ls hl
  have hx := hC.1.1
  have hb := hC.1.2.1
  have hcr_c := hcr.2.2.1
  have hcr_f := hcr.2.2.2.1
  refine lv_iload_n hx hb dX0_mixAt_0 rfl (lv_at hl 1 rfl) ?_
  refine lv_if_lt (tgt := 27) hx hb dX0_mixAt_1 (by decide) (fun c1 => ?_) (fun c1 => ?_)
  · refine lv_null hx hb dX0_mixAt_27 ?_
    exact g_reta hC hs rfl (Or.inl rfl) dX0_mixAt_28
  · refine lv_iload_n hx hb dX0_mixAt_4 rfl (lv_at hl 1 rfl) ?_
    refine lv_aload_n hx hb dX0_mixAt_5 rfl (lv_at hl 0 rfl) ?_
    refine g_get hC hP hco.1 rfl inX0 0 (by decide) q1_61 hcr.1 dX0_mixAt_6 ?_
    refine lv_icmp_ge (tgt := 27) hx hb dX0_mixAt_9 (by decide) (fun c9 => ?_) (fun c9 => ?_)
    · refine lv_null hx hb dX0_mixAt_27 ?_
      exact g_reta hC hs rfl (Or.inl rfl) dX0_mixAt_28
    · exact absurd (inR_t c1 c9) (by rw [hq]; decide)
set_option maxHeartbeats 4000000 in
set_option maxRecDepth 100000 in
theorem c_X0_numberOf (l : Launch) {G : gG} {T : gTy} {I : gI} {J : gJ} {Q : gR} {O : gO} {H : Heap} (hP : gP G T I J Q O H) {k cnt fill sp x u n : Nat} {ad : Nat → Nat} {tt : Nat → Int64} {uu nn : Nat → Nat} {t : Int64} (hco : coG T Q O k) (hcr : coR T Q O k cnt fill sp ad) (hmx : isMx T O x) (hmv : mxV O x t u n) (hV : ∀ j, j < cnt → mxV O (ad j) (tt j) (uu j) (nn j)) : Met l yX0_numberOf (gw yX0_numberOf cX0_numberOf 4 (some (.int))) ({ frames := 1, cells := 0, slots := 0, locals := 26 } : Room) (gPc G H [.ref k, .ref x]) (gQp (some (.int (oI (fstN (fun j => decide (ordM (J (ad j + 1)) (tt j) (J (x + 1)) t = 0)) cnt))))) 0 0 (fun _ => False) := by
  refine g_met [(0, .ref k), (1, .ref x)] (by decide) rfl (by exact Nat.le_of_ble_eq_true rfl) ?_
  intro p e s m below meth c hC hs ls hl
  have hx := hC.1.1
  have hb := hC.1.2.1
  have hcr_c := hcr.2.2.1
  have hcr_f := hcr.2.2.2.1
  refine lv_iconst (v := nI 0) hx hb dX0_numberOf_0 (by decide) ?_
  refine lv_istore_n (lv' := [(2, .int (nI 0)), (0, .ref k), (1, .ref x)]) hx hb dX0_numberOf_1 rfl hl (by decide) rfl (fun ls hl => ?_)
  have L2 : ∀ (n2 : Nat) (i : Nat), 70 ≤ n2 + i → (i ≤ cnt) → (∀ j, j < i → decide (ordM (J (ad j + 1)) (tt j) (J (x + 1)) t = 0) = false) → ∀ ls : Array Slot, lv_has ls 4 [(0, .ref k), (1, .ref x), (2, .int (nI i))] → W p l e ({ frames := 1, cells := 0, slots := 0, locals := 26 } : Room) s m [.ref k, .ref x].toArray below meth c H [] 0 0 (MQ below (gQp (some (.int (oI (fstN (fun j => decide (ordM (J (ad j + 1)) (tt j) (J (x + 1)) t = 0)) cnt))))) [.ref k, .ref x].toArray s 0 0 (fun _ => False)) (F0 m 2 ls []) := by
    intro n2
    induction n2 with
    | zero => intro i hn2 hi h1; exact absurd hn2 (by omega)
    | succ n2 ih2 =>
      intro i hn2 hi h1 ls hl
      refine lv_iload_n hx hb dX0_numberOf_2 rfl (lv_at hl 2 rfl) ?_
      refine lv_aload_n hx hb dX0_numberOf_3 rfl (lv_at hl 0 rfl) ?_
      refine g_get hC hP hco.1 rfl inX0 0 (by decide) q1_61 hcr.1 dX0_numberOf_4 ?_
      refine lv_icmp_ge (tgt := 36) hx hb dX0_numberOf_7 (by decide) (fun c7 => ?_) (fun c7 => ?_)
      · have c7 := (nI_leI (by omega) (by omega)).mp c7
        refine lv_bipush (v := (-9)) hx hb dX0_numberOf_36 (by decide) ?_
        refine g_reti hC hs ?_ dX0_numberOf_38
        rw [fstN_none (fun j h => h1 j (by omega))]; rfl
      · have c7 := mt (nI_leI (by omega) (by omega)).mpr c7
        have hmi := (hcr.2.2.2.2.2.2.1 i (by omega)).1
        have hvi := hV i (by omega)
        refine lv_aload_n hx hb dX0_numberOf_10 rfl (lv_at hl 0 rfl) ?_
        refine lv_iload_n hx hb dX0_numberOf_11 rfl (lv_at hl 2 rfl) ?_
        refine g_cp (g_rV (As := [.int (nI i)]) hC hP (c_X0_mixAt_in l hP (k := k) (cnt := cnt) (fill := fill) (sp := sp) (j := i) (ad := ad) (by first | assumption | omega) (by first | assumption | omega) (by first | assumption | omega)) hco.1 rfl ⟨q2_153, q2_188, q2_151, q2_152, q1_3⟩ dd_X0_mixAt ⟨Nat.le_of_ble_eq_true rfl, Nat.le_of_ble_eq_true rfl, rfl, rfl⟩ hl.1 rfl (Nat.le_of_ble_eq_true rfl) dX0_numberOf_12 ⟨Nat.le_of_ble_eq_true rfl, Nat.le_of_ble_eq_true rfl⟩) ?_
        refine W.eq (g2 := F0 m 15 ls [.ref (ad i)]) rfl ?_
        refine lv_astore_n (lv' := [(3, .ref (ad i)), (0, .ref k), (1, .ref x), (2, .int (nI i))]) hx hb dX0_numberOf_15 rfl hl (by decide) rfl (fun ls hl => ?_)
        refine lv_aload_n hx hb dX0_numberOf_16 rfl (lv_at hl 0 rfl) ?_
        refine lv_ifnull hx hb dX0_numberOf_17 ?_
        refine lv_aload_n hx hb dX0_numberOf_20 rfl (lv_at hl 0 rfl) ?_
        refine lv_aload_n hx hb dX0_numberOf_21 rfl (lv_at hl 2 rfl) ?_
        refine g_cp (g_rV (As := [.ref x]) hC hP (c_X2_orderTo l hP (x := ad i) (y := x) (u := uu i) (n := nn i) (u2 := u) (n2 := n) (t := tt i) (t2 := t) hmi hvi hmx hmv) hmi.1 rfl ⟨q2_141, q2_138, q2_139, q2_140, q1_4⟩ dd_X2_orderTo ⟨Nat.le_of_ble_eq_true rfl, Nat.le_of_ble_eq_true rfl, rfl, rfl⟩ hl.1 rfl (Nat.le_of_ble_eq_true rfl) dX0_numberOf_22 ⟨Nat.le_of_ble_eq_true rfl, Nat.le_of_ble_eq_true rfl⟩) ?_
        refine W.eq (g2 := F0 m 25 ls [.int (ordM (J ((ad i) + 1)) (tt i) (J (x + 1)) t)]) rfl ?_
        refine lv_if_ne (tgt := 30) hx hb dX0_numberOf_25 (by decide) (fun c25 => ?_) (fun c25 => ?_)
        · refine lv_iinc (v := nI (i + 1)) (lv' := [(2, .int (nI (i + 1))), (3, .ref (ad i)), (0, .ref k), (1, .ref x)]) hx hb dX0_numberOf_30 hl (k := 3) rfl (nI_inc _) (by decide) rfl (fun ls hl => ?_)
          refine lv_goto (tgt := 2) hx hb dX0_numberOf_33 (by decide) ?_
          exact ih2 (i + 1) (by omega) (by omega) (fun j h => by rcases Nat.lt_succ_iff_lt_or_eq.mp h with h | rfl <;> first | exact h1 j h | simpa using c25) ls (lv_sub hl [2, 3, 0] rfl)
        · refine lv_iload_n hx hb dX0_numberOf_28 rfl (lv_at hl 3 rfl) ?_
          refine g_reti hC hs ?_ dX0_numberOf_29
          rw [fstN_some (i := i) (by omega) (by simpa using c25) h1]; rfl
  exact L2 70 0 (by omega) (by omega) (fun a h => absurd h (by omega)) ls (lv_sub hl [1, 2, 0] rfl)
set_option maxHeartbeats 4000000 in
set_option maxRecDepth 100000 in
theorem c_X0_signOfFirst (l : Launch) {G : gG} {T : gTy} {I : gI} {J : gJ} {Q : gR} {O : gO} {H : Heap} (hP : gP G T I J Q O H) {k sp u : Nat} (hco : coG T Q O k) (hks : O k 2 = .ref sp) (hms : isMx T O sp) (hu : u < 16) : Met l yX0_signOfFirst (gw yX0_signOfFirst cX0_signOfFirst 3 (some (.long))) ({ frames := 1, cells := 0, slots := 0, locals := 21 } : Room) (gPc G H [.ref k, .int (nI u)]) (gQp (some (.long (sgnF (J (sp + 1)) u)))) 0 0 (fun _ => False) := by
  refine g_met [(0, .ref k), (1, .int (nI u))] (by decide) rfl (by exact Nat.le_of_ble_eq_true rfl) ?_
  intro p e s m below meth c hC hs ls hl
  have hx := hC.1.1
  have hb := hC.1.2.1
  refine lv_iconst (v := nI 0) hx hb dX0_signOfFirst_0 (by decide) ?_
  refine lv_istore_n (lv' := [(2, .int (nI 0)), (0, .ref k), (1, .int (nI u))]) hx hb dX0_signOfFirst_1 rfl hl (by decide) rfl (fun ls hl => ?_)
  have L2 : ∀ (n2 : Nat) (i : Nat), 5 ≤ n2 + i → (i ≤ 4) → (∀ k, k < i → u.testBit k = false) → ∀ ls : Array Slot, lv_has ls 3 [(0, .ref k), (1, .int (nI u)), (2, .int (nI i))] → W p l e ({ frames := 1, cells := 0, slots := 0, locals := 21 } : Room) s m [.ref k, .int (nI u)].toArray below meth c H [] 0 0 (MQ below (gQp (some (.long (sgnF (J (sp + 1)) u)))) [.ref k, .int (nI u)].toArray s 0 0 (fun _ => False)) (F0 m 2 ls []) := by
    intro n2
    induction n2 with
    | zero => intro i hn2 hi h1; exact absurd hn2 (by omega)
    | succ n2 ih2 =>
      intro i hn2 hi h1 ls hl
      refine lv_iload_n hx hb dX0_signOfFirst_2 rfl (lv_at hl 2 rfl) ?_
      refine lv_iconst (v := nI 4) hx hb dX0_signOfFirst_3 (by decide) ?_
      refine lv_icmp_ge (tgt := 43) hx hb dX0_signOfFirst_4 (by decide) (fun c4 => ?_) (fun c4 => ?_)
      · have c4 := (nI_leI (by omega) (by omega)).mp c4
        refine lv_lconst (v := 1) hx hb dX0_signOfFirst_43 (by decide) ?_
        refine g_retl hC hs ?_ dX0_signOfFirst_44
        unfold sgnF; rw [fst4_none (fun j h => h1 j (by omega))]
      · have c4 := mt (nI_leI (by omega) (by omega)).mpr c4
        refine lv_iload_n hx hb dX0_signOfFirst_7 rfl (lv_at hl 1 rfl) ?_
        refine lv_iload_n hx hb dX0_signOfFirst_8 rfl (lv_at hl 2 rfl) ?_
        refine g_cp (g_rSN (As := [.int (nI u), .int (nI i)]) hC (c_X4_hasBit l (B := u) (k := i) (by first | assumption | omega) (by first | assumption | omega)) ⟨q2_11, List.mem_of_getElem? (i := 8) rfl, q2_10, q1_1⟩ dd_X4_hasBit ⟨Nat.le_of_ble_eq_true rfl, Nat.le_of_ble_eq_true rfl, rfl, rfl⟩ hl.1 rfl (Nat.le_of_ble_eq_true rfl) dX0_signOfFirst_9 ⟨Nat.le_of_ble_eq_true rfl, Nat.le_of_ble_eq_true rfl⟩) ?_
        refine W.eq (g2 := F0 m 12 ls [.int (gb (u.testBit i))]) rfl ?_
        refine lv_if_eq (tgt := 37) hx hb dX0_signOfFirst_12 (by decide) (fun c12 => ?_) (fun c12 => ?_)
        · have c12 := gb_f c12
          refine lv_iinc (v := nI (i + 1)) (lv' := [(2, .int (nI (i + 1))), (0, .ref k), (1, .int (nI u))]) hx hb dX0_signOfFirst_37 hl (k := 2) rfl (nI_inc _) (by decide) rfl (fun ls hl => ?_)
          refine lv_goto (tgt := 2) hx hb dX0_signOfFirst_40 (by decide) ?_
          exact ih2 (i + 1) (by omega) (by omega) (fun j h => by rcases Nat.lt_succ_iff_lt_or_eq.mp h with h | rfl <;> first | exact h1 j h | exact c12) ls (lv_sub hl [1, 2, 0] rfl)
        · have c12 := gb_t c12
          refine lv_aload_n hx hb dX0_signOfFirst_15 rfl (lv_at hl 0 rfl) ?_
          refine g_get hC hP hco.1 rfl inX0 2 (by decide) q1_64 hks dX0_signOfFirst_16 ?_
          refine g_get hC hP hms.1 rfl inX2 0 (by decide) q1_38 hms.2.1 dX0_signOfFirst_19 ?_
          refine lv_iload_n hx hb dX0_signOfFirst_22 rfl (lv_at hl 2 rfl) ?_
          refine g_lald hC hP hms.2.2 (vp_in_nI (by omega) (by decide)) dX0_signOfFirst_23 ?_
          refine g_topl (y := J (sp + 1) i) (congrArg (J (sp + 1)) (nI_clamp (by omega))) ?_
          refine lv_lconst (v := 0) hx hb dX0_signOfFirst_24 (by decide) ?_
          refine W.lcmp hx hb dX0_signOfFirst_25 ?_
          refine lv_if_ge (tgt := 35) hx hb dX0_signOfFirst_26 (by decide) (fun c26 => ?_) (fun c26 => ?_)
          · have c26 := (lg_cmp_ge _ _).mp c26
            have c26 := Int64.not_lt.mpr c26
            refine lv_lconst (v := 1) hx hb dX0_signOfFirst_35 (by decide) ?_
            refine g_retl hC hs ?_ dX0_signOfFirst_36
            unfold sgnF; rw [fst4_some (i := i) (by omega) c12 h1]; first | exact (if_neg c26).symm | exact (if_pos c26).symm
          · have c26 := mt (lg_cmp_ge _ _).mpr c26
            have c26 := Int64.not_le.mp c26
            refine lv_ldc2 (v := (-1 : Int64)) hx hb hC.1.2.2.2.1 (hC.1.2.2.2.2 _ q2_131) dX0_signOfFirst_29 ?_
            refine lv_goto (tgt := 36) hx hb dX0_signOfFirst_32 (by decide) ?_
            refine g_retl hC hs ?_ dX0_signOfFirst_36
            unfold sgnF; rw [fst4_some (i := i) (by omega) c12 h1]; first | exact (if_neg c26).symm | exact (if_pos c26).symm
  exact L2 5 0 (by omega) (by omega) (fun a h => absurd h (by omega)) ls (lv_sub hl [1, 2, 0] rfl)
set_option maxHeartbeats 4000000 in
set_option maxRecDepth 100000 in
theorem c_X0_layLine (l : Launch) {G : gG} {T : gTy} {I : gI} {J : gJ} {Q : gR} {O : gO} {H : Heap} (hP : gP G T I J Q O H) {k ln u b ch f a : Nat} (hco : coG T Q O k) (hpl : isPl T O b ch) (hu : u < 16) (hln : ln < 3) (hf : f < 4) (ha : a < 4) : Met l yX0_layLine (gw yX0_layLine cX0_layLine 8 (none)) ({ frames := 1, cells := 0, slots := 0, locals := 22 } : Room) (gPc G H [.ref k, .int (nI ln), .int (nI u), .ref b, .int (nI f), .int (nI a)]) (gQc (gF T H) (fun r H1 => r = none ∧ gP G T I (gu J (k + 5 + ln) (gapRow (J (k + 5 + ln)) (fun q => (I (b + 9) (a * 4 + q) - I (b + 9) (f * 4 + q)).toInt64) u 4)) Q O H1)) 0 0 (gF T H) := by
  refine g_met [(0, .ref k), (1, .int (nI ln)), (2, .int (nI u)), (3, .ref b), (4, .int (nI f)), (5, .int (nI a))] (by decide) rfl (by exact Nat.le_of_ble_eq_true rfl) ?_
  intro p e s m below meth c hC hs ls hl
  have hx := hC.1.1
  have hb := hC.1.2.1
  have hS : va_S (gF T H) s.heap H [] := hs ▸ va_S.rf
  have hTA : ∀ q, (T q).1 ≠ 0 → gF T H q := fun q h => Or.inl h
  have hA : ∀ q, s.heap.size ≤ q → gF T H q := fun q h => Or.inr (hs ▸ h)
  generalize hAe : gF T H = A at hS hTA hA ⊢
  have hpl_lo := hpl.2.2.2.2.2.2.2.2.1
  have hpl_hi := hpl.2.2.2.2.2.2.2.2.2
  have hgl := coG_t hco hln
  refine lv_iconst (v := nI 0) hx hb dX0_layLine_0 (by decide) ?_
  refine lv_istore (lv' := [(6, .int (nI 0)), (0, .ref k), (1, .int (nI ln)), (2, .int (nI u)), (3, .ref b), (4, .int (nI f)), (5, .int (nI a))]) hx hb dX0_layLine_1 hl (by decide) rfl (fun ls hl => ?_)
  refine lv_iconst (v := nI 0) hx hb dX0_layLine_3 (by decide) ?_
  refine lv_istore (lv' := [(7, .int (nI 0)), (6, .int (nI 0)), (0, .ref k), (1, .int (nI ln)), (2, .int (nI u)), (3, .ref b), (4, .int (nI f)), (5, .int (nI a))]) hx hb dX0_layLine_4 hl (by decide) rfl (fun ls hl => ?_)
  have L6 : ∀ (n6 : Nat) (i : Nat) (pl : Nat) (J2 : gJ), 5 ≤ n6 + i → (i ≤ 4) → (pl = rnk u i) → (J2 = gu J (k + 5 + ln) (gapRow (J (k + 5 + ln)) (fun q => (I (b + 9) (a * 4 + q) - I (b + 9) (f * 4 + q)).toInt64) u i)) → ∀ (Hl : Heap) (lcl : List Loc), gP G T I J2 Q O Hl → va_S A s.heap Hl lcl → ∀ ls : Array Slot, lv_has ls 8 [(0, .ref k), (1, .int (nI ln)), (2, .int (nI u)), (3, .ref b), (4, .int (nI f)), (5, .int (nI a)), (6, .int (nI pl)), (7, .int (nI i))] → W p l e ({ frames := 1, cells := 0, slots := 0, locals := 22 } : Room) s m [.ref k, .int (nI ln), .int (nI u), .ref b, .int (nI f), .int (nI a)].toArray below meth c Hl lcl 0 0 (MQ below (gQc A (fun r H1 => r = none ∧ gP G T I (gu J (k + 5 + ln) (gapRow (J (k + 5 + ln)) (fun q => (I (b + 9) (a * 4 + q) - I (b + 9) (f * 4 + q)).toInt64) u 4)) Q O H1)) [.ref k, .int (nI ln), .int (nI u), .ref b, .int (nI f), .int (nI a)].toArray s 0 0 A) (F0 m 6 ls []) := by
    intro n6
    induction n6 with
    | zero => intro i pl J2 hn6 hi h1 h2; exact absurd hn6 (by omega)
    | succ n6 ih6 =>
      intro i pl J2 hn6 hi h1 h2 Hl lcl hP hS ls hl
      have hr := rnk_le u i
      refine lv_iload hx hb dX0_layLine_6 (lv_at hl 7 rfl) ?_
      refine lv_iconst (v := nI 4) hx hb dX0_layLine_8 (by decide) ?_
      refine lv_icmp_ge (tgt := 57) hx hb dX0_layLine_9 (by decide) (fun c9 => ?_) (fun c9 => ?_)
      · have c9 := (nI_leI (by omega) (by omega)).mp c9
        refine g_retcv hC hS ?_ dX0_layLine_57
        refine ⟨rfl, ?_⟩
        have e : i = 4 := by omega
        subst e
        subst h2
        exact hP
      · have c9 := mt (nI_leI (by omega) (by omega)).mpr c9
        refine lv_iload_n hx hb dX0_layLine_12 rfl (lv_at hl 2 rfl) ?_
        refine lv_iload hx hb dX0_layLine_13 (lv_at hl 7 rfl) ?_
        refine g_cp (g_rSN (As := [.int (nI u), .int (nI i)]) hC (c_X4_hasBit l (B := u) (k := i) (by first | assumption | omega) (by first | assumption | omega)) ⟨q2_11, List.mem_of_getElem? (i := 8) rfl, q2_10, q1_1⟩ dd_X4_hasBit ⟨Nat.le_of_ble_eq_true rfl, Nat.le_of_ble_eq_true rfl, rfl, rfl⟩ hl.1 rfl (Nat.le_of_ble_eq_true rfl) dX0_layLine_15 ⟨Nat.le_of_ble_eq_true rfl, Nat.le_of_ble_eq_true rfl⟩) ?_
        refine W.eq (g2 := F0 m 18 ls [.int (gb (u.testBit i))]) rfl ?_
        refine lv_if_eq (tgt := 51) hx hb dX0_layLine_18 (by decide) (fun c18 => ?_) (fun c18 => ?_)
        · have c18 := gb_f c18
          refine lv_iinc (v := nI (i + 1)) (lv' := [(7, .int (nI (i + 1))), (0, .ref k), (1, .int (nI ln)), (2, .int (nI u)), (3, .ref b), (4, .int (nI f)), (5, .int (nI a)), (6, .int (nI pl))]) hx hb dX0_layLine_51 hl (k := 7) rfl (nI_inc _) (by decide) rfl (fun ls hl => ?_)
          refine lv_goto (tgt := 6) hx hb dX0_layLine_54 (by decide) ?_
          exact ih6 (i + 1) pl J2 (by omega) (by omega) (by first | (rw [rnk_t c18, h1]) | (rw [rnk_f c18, h1])) (by first | (rw [hJ2, h2, au_gu, h1, ← gapRow_t hu (by omega) c18]) | (rw [gapRow_f c18]; exact h2)) _ _ hP hS ls (lv_sub hl [1, 2, 3, 4, 5, 6, 7, 0] rfl)
        · have c18 := gb_t c18
          refine lv_aload_n hx hb dX0_layLine_21 rfl (lv_at hl 0 rfl) ?_
          refine g_get hC hP hco.1 rfl inX0 3 (by decide) q1_65 hco.2.2.1 dX0_layLine_22 ?_
          refine lv_iload_n hx hb dX0_layLine_25 rfl (lv_at hl 1 rfl) ?_
          refine g_aaldG hC hP hco.2.2.2.2.1 (vp_in_nI (by omega) (by decide)) (v := .ref (k + 5 + ln)) (by rw [nI_clamp (by omega)]; exact coG_q hco (by omega)) dX0_layLine_26 ?_
          refine lv_iload hx hb dX0_layLine_27 (lv_at hl 6 rfl) ?_
          refine lv_aload_n hx hb dX0_layLine_29 rfl (lv_at hl 3 rfl) ?_
          refine lv_iload hx hb dX0_layLine_30 (lv_at hl 5 rfl) ?_
          refine lv_iload hx hb dX0_layLine_32 (lv_at hl 7 rfl) ?_
          refine g_cp (g_rV (As := [.int (nI a), .int (nI i)]) hC hP (c_X3_payFor l hP (b := b) (ch := ch) (i := a) (k := i) (by first | assumption | omega) (by first | assumption | omega) (by first | assumption | omega)) hpl.1 rfl ⟨q1_170, q2_110, q1_168, q1_169, q1_2⟩ dd_X3_payFor ⟨Nat.le_of_ble_eq_true rfl, Nat.le_of_ble_eq_true rfl, rfl, rfl⟩ hl.1 rfl (Nat.le_of_ble_eq_true rfl) dX0_layLine_34 ⟨Nat.le_of_ble_eq_true rfl, Nat.le_of_ble_eq_true rfl⟩) ?_
          refine W.eq (g2 := F0 m 37 ls [.int (I (b + 9) (a * 4 + i)), .int (nI pl), .ref (k + 5 + ln)]) rfl ?_
          refine lv_aload_n hx hb dX0_layLine_37 rfl (lv_at hl 3 rfl) ?_
          refine lv_iload hx hb dX0_layLine_38 (lv_at hl 4 rfl) ?_
          refine lv_iload hx hb dX0_layLine_40 (lv_at hl 7 rfl) ?_
          refine g_cp (g_rV (As := [.int (nI f), .int (nI i)]) hC hP (c_X3_payFor l hP (b := b) (ch := ch) (i := f) (k := i) (by first | assumption | omega) (by first | assumption | omega) (by first | assumption | omega)) hpl.1 rfl ⟨q1_170, q2_110, q1_168, q1_169, q1_2⟩ dd_X3_payFor ⟨Nat.le_of_ble_eq_true rfl, Nat.le_of_ble_eq_true rfl, rfl, rfl⟩ hl.1 rfl (Nat.le_of_ble_eq_true rfl) dX0_layLine_42 ⟨Nat.le_of_ble_eq_true rfl, Nat.le_of_ble_eq_true rfl⟩) ?_
          refine W.eq (g2 := F0 m 45 ls [.int (I (b + 9) (f * 4 + i)), .int (I (b + 9) (a * 4 + i)), .int (nI pl), .ref (k + 5 + ln)]) rfl ?_
          refine lv_isub hx hb dX0_layLine_45 ?_
          refine lv_i2l hx hb dX0_layLine_46 rfl ?_
          refine g_last hC hP hS hTA hgl (vp_in_nI (by omega) (by decide)) dX0_layLine_47 (fun H1 locs2 hP hS hz4 => ?_)
          rw [show (nI pl).toNatClampNeg = pl from nI_clamp (by omega)] at hP
          obtain ⟨J3, hJ3, hP⟩ : ∃ X : gJ, X = au J2 (k + 5 + ln) pl (((I (b + 9) (a * 4 + i)) - (I (b + 9) (f * 4 + i))).toInt64) ∧ gP G T I X Q O H1 := ⟨_, rfl, hP⟩
          refine lv_iinc (v := nI (pl + 1)) (lv' := [(6, .int (nI (pl + 1))), (0, .ref k), (1, .int (nI ln)), (2, .int (nI u)), (3, .ref b), (4, .int (nI f)), (5, .int (nI a)), (7, .int (nI i))]) hx hb dX0_layLine_48 hl (k := 6) rfl (nI_inc _) (by decide) rfl (fun ls hl => ?_)
          refine lv_iinc (v := nI (i + 1)) (lv' := [(7, .int (nI (i + 1))), (6, .int (nI (pl + 1))), (0, .ref k), (1, .int (nI ln)), (2, .int (nI u)), (3, .ref b), (4, .int (nI f)), (5, .int (nI a))]) hx hb dX0_layLine_51 hl (k := 7) rfl (nI_inc _) (by decide) rfl (fun ls hl => ?_)
          refine lv_goto (tgt := 6) hx hb dX0_layLine_54 (by decide) ?_
          exact ih6 (i + 1) (pl + 1) J3 (by omega) (by omega) (by first | (rw [rnk_t c18, h1]) | (rw [rnk_f c18, h1])) (by first | (rw [hJ3, h2, au_gu, h1, ← gapRow_t hu (by omega) c18]) | (rw [gapRow_f c18]; exact h2)) _ _ hP hS ls (lv_sub hl [2, 3, 4, 5, 6, 7, 1, 0] rfl)
  exact L6 5 0 0 J (by omega) (by omega) rfl (by rw [show gapRow (J (k + 5 + ln)) (fun q => (I (b + 9) (a * 4 + q) - I (b + 9) (f * 4 + q)).toInt64) u 0 = J (k + 5 + ln) from funext fun j => by simp [gapRow, rnk], gu_self]) _ _ hP hS ls (lv_sub hl [2, 3, 4, 5, 6, 7, 1, 0] rfl)
theorem gapM_step {J2 J7 : gJ} {P : Nat → Int32} {k li u t i f : Nat} (ht : t < 16) (hi : i < 4) (hb : t.testBit i = true) (h1 : li + 1 = rnk t i) (hf : fst4 t.testBit = some f) (hJ : J7 = gu J2 (k + 5 + li) (gapRow (J2 (k + 5 + li)) (fun q => (P (i * 4 + q) - P (f * 4 + q)).toInt64) u 4)) (h3 : ∀ ln, ln < li → ∀ pl, pl < rnk u 4 → J2 (k + 5 + ln) pl = gapM P u t ln pl) : ∀ ln, ln < li + 1 → ∀ pl, pl < rnk u 4 → J7 (k + 5 + ln) pl = gapM P u t ln pl := by
  intro ln hln pl hpl
  rw [hJ]
  by_cases e : ln = li
  · subst e
    rw [gu_eq]
    unfold gapRow gapM
    rw [if_pos hpl, h1, nth_rnk ht hi hb, nth_fst ht hf]
  · rw [gu_ne _ _ (by omega)]
    exact h3 ln (by omega) pl hpl
set_option maxHeartbeats 4000000 in
set_option maxRecDepth 100000 in
theorem c_X0_layGaps (l : Launch) {G : gG} {T : gTy} {I : gI} {J : gJ} {Q : gR} {O : gO} {H : Heap} (hP : gP G T I J Q O H) {k u t b ch f : Nat} (hco : coG T Q O k) (hpl : isPl T O b ch) (hu : u < 16) (ht : t < 16) (hf : fst4 t.testBit = some f) : Met l yX0_layGaps (gw yX0_layGaps cX0_layGaps 7 (none)) ({ frames := 2, cells := 0, slots := 0, locals := 49 } : Room) (gPc G H [.ref k, .int (nI u), .int (nI t), .ref b]) (gQc (gF T H) (fun r H1 => r = none ∧ ∃ J2 : gJ, (∀ q, (q < k + 5 ∨ k + 8 ≤ q) → J2 q = J q) ∧ (∀ ln, ln < popc t - 1 → ∀ pl, pl < rnk u 4 → J2 (k + 5 + ln) pl = gapM (I (b + 9)) u t ln pl) ∧ gP G T I J2 Q O H1)) 0 0 (gF T H) := by
  refine g_met [(0, .ref k), (1, .int (nI u)), (2, .int (nI t)), (3, .ref b)] (by decide) rfl (by exact Nat.le_of_ble_eq_true rfl) ?_
  intro p e s m below meth c hC hs ls hl
  have hx := hC.1.1
  have hb := hC.1.2.1
  have hS : va_S (gF T H) s.heap H [] := hs ▸ va_S.rf
  have hTA : ∀ q, (T q).1 ≠ 0 → gF T H q := fun q h => Or.inl h
  have hA : ∀ q, s.heap.size ≤ q → gF T H q := fun q h => Or.inr (hs ▸ h)
  generalize hAe : gF T H = A at hS hTA hA ⊢
  have hpl_lo := hpl.2.2.2.2.2.2.2.2.1
  have hpl_hi := hpl.2.2.2.2.2.2.2.2.2
  have hf4 := (fst4_lt hf).1
  refine lv_iload_n hx hb dX0_layGaps_0 rfl (lv_at hl 2 rfl) ?_
  refine g_cp (g_rSN (As := [.int (nI t)]) hC (c_X4_firstOf l (B := t) (by first | assumption | omega)) ⟨q2_8, List.mem_of_getElem? (i := 7) rfl, q2_7, q1_1⟩ dd_X4_firstOf ⟨Nat.le_of_ble_eq_true rfl, Nat.le_of_ble_eq_true rfl, rfl, rfl⟩ hl.1 rfl (Nat.le_of_ble_eq_true rfl) dX0_layGaps_1 ⟨Nat.le_of_ble_eq_true rfl, Nat.le_of_ble_eq_true rfl⟩) ?_
  refine W.eq (g2 := F0 m 4 ls [.int (oI (fst4 t.testBit))]) rfl ?_
  refine g_topi (y := nI f) (by rw [hf]; rfl) ?_
  refine lv_istore (lv' := [(4, .int (nI f)), (0, .ref k), (1, .int (nI u)), (2, .int (nI t)), (3, .ref b)]) hx hb dX0_layGaps_4 hl (by decide) rfl (fun ls hl => ?_)
  refine lv_iconst (v := nI 0) hx hb dX0_layGaps_6 (by decide) ?_
  refine lv_istore (lv' := [(5, .int (nI 0)), (4, .int (nI f)), (0, .ref k), (1, .int (nI u)), (2, .int (nI t)), (3, .ref b)]) hx hb dX0_layGaps_7 hl (by decide) rfl (fun ls hl => ?_)
  refine lv_iload hx hb dX0_layGaps_9 (lv_at hl 1 rfl) ?_
  refine lv_iconst (v := nI 1) hx hb dX0_layGaps_11 (by decide) ?_
  refine lv_iadd hx hb dX0_layGaps_12 ?_
  refine g_topi (y := nI (f + 1)) (nI_add _ _) ?_
  refine lv_istore (lv' := [(6, .int (nI (f + 1))), (5, .int (nI 0)), (4, .int (nI f)), (0, .ref k), (1, .int (nI u)), (2, .int (nI t)), (3, .ref b)]) hx hb dX0_layGaps_13 hl (by decide) rfl (fun ls hl => ?_)
  have L15 : ∀ (n15 : Nat) (i : Nat) (li : Nat) (J2 : gJ), 5 ≤ n15 + i → (i ≤ 4) → (li + 1 = rnk t i) → (∀ q, (q < k + 5 ∨ k + 8 ≤ q) → J2 q = J q) → ((∀ ln, ln < li → ∀ pl, pl < rnk u 4 → J2 (k + 5 + ln) pl = gapM (I (b + 9)) u t ln pl)) → ∀ (Hl : Heap) (lcl : List Loc), gP G T I J2 Q O Hl → va_S A s.heap Hl lcl → ∀ ls : Array Slot, lv_has ls 7 [(0, .ref k), (1, .int (nI u)), (2, .int (nI t)), (3, .ref b), (4, .int (nI f)), (5, .int (nI li)), (6, .int (nI i))] → W p l e ({ frames := 2, cells := 0, slots := 0, locals := 49 } : Room) s m [.ref k, .int (nI u), .int (nI t), .ref b].toArray below meth c Hl lcl 0 0 (MQ below (gQc A (fun r H1 => r = none ∧ ∃ J2 : gJ, (∀ q, (q < k + 5 ∨ k + 8 ≤ q) → J2 q = J q) ∧ (∀ ln, ln < popc t - 1 → ∀ pl, pl < rnk u 4 → J2 (k + 5 + ln) pl = gapM (I (b + 9)) u t ln pl) ∧ gP G T I J2 Q O H1)) [.ref k, .int (nI u), .int (nI t), .ref b].toArray s 0 0 A) (F0 m 15 ls []) := by
    intro n15
    induction n15 with
    | zero => intro i li J2 hn15 hi h1 h2 h3; exact absurd hn15 (by omega)
    | succ n15 ih15 =>
      intro i li J2 hn15 hi h1 h2 h3 Hl lcl hP hS ls hl
      have hr := rnk_le t i
      refine lv_iload hx hb dX0_layGaps_15 (lv_at hl 6 rfl) ?_
      refine lv_iconst (v := nI 4) hx hb dX0_layGaps_17 (by decide) ?_
      refine lv_icmp_ge (tgt := 51) hx hb dX0_layGaps_18 (by decide) (fun c18 => ?_) (fun c18 => ?_)
      · have c18 := (nI_leI (by omega) (by omega)).mp c18
        refine g_retcv hC hS ?_ dX0_layGaps_51
        refine ⟨rfl, J2, h2, ?_, hP⟩
        have e : i = 4 := by omega
        subst e
        rw [← rnk_popc ht, ← h1]
        exact h3
      · have c18 := mt (nI_leI (by omega) (by omega)).mpr c18
        refine lv_iload_n hx hb dX0_layGaps_21 rfl (lv_at hl 2 rfl) ?_
        refine lv_iload hx hb dX0_layGaps_22 (lv_at hl 6 rfl) ?_
        refine g_cp (g_rSN (As := [.int (nI t), .int (nI i)]) hC (c_X4_hasBit l (B := t) (k := i) (by first | assumption | omega) (by first | assumption | omega)) ⟨q2_11, List.mem_of_getElem? (i := 8) rfl, q2_10, q1_1⟩ dd_X4_hasBit ⟨Nat.le_of_ble_eq_true rfl, Nat.le_of_ble_eq_true rfl, rfl, rfl⟩ hl.1 rfl (Nat.le_of_ble_eq_true rfl) dX0_layGaps_24 ⟨Nat.le_of_ble_eq_true rfl, Nat.le_of_ble_eq_true rfl⟩) ?_
        refine W.eq (g2 := F0 m 27 ls [.int (gb (t.testBit i))]) rfl ?_
        refine lv_if_eq (tgt := 45) hx hb dX0_layGaps_27 (by decide) (fun c27 => ?_) (fun c27 => ?_)
        · have c27 := gb_f c27
          refine lv_iinc (v := nI (i + 1)) (lv' := [(6, .int (nI (i + 1))), (0, .ref k), (1, .int (nI u)), (2, .int (nI t)), (3, .ref b), (4, .int (nI f)), (5, .int (nI li))]) hx hb dX0_layGaps_45 hl (k := 6) rfl (nI_inc _) (by decide) rfl (fun ls hl => ?_)
          refine lv_goto (tgt := 15) hx hb dX0_layGaps_48 (by decide) ?_
          exact ih15 (i + 1) li J2 (by omega) (by omega) (by first | (rw [rnk_t c27, h1]) | (rw [rnk_f c27, h1])) (by first | exact h2 | (intro q hq; rw [hJ2, gu_ne _ _ (by omega)]; exact h2 q hq)) (by first | exact h3 | exact gapM_step ht (by omega) c27 h1 hf hJ2 h3) _ _ hP hS ls (lv_sub hl [1, 2, 3, 4, 5, 6, 0] rfl)
        · have c27 := gb_t c27
          refine lv_aload_n hx hb dX0_layGaps_30 rfl (lv_at hl 0 rfl) ?_
          refine lv_iload hx hb dX0_layGaps_31 (lv_at hl 5 rfl) ?_
          refine lv_iload_n hx hb dX0_layGaps_33 rfl (lv_at hl 1 rfl) ?_
          refine lv_aload_n hx hb dX0_layGaps_34 rfl (lv_at hl 3 rfl) ?_
          refine lv_iload hx hb dX0_layGaps_35 (lv_at hl 4 rfl) ?_
          refine lv_iload hx hb dX0_layGaps_37 (lv_at hl 6 rfl) ?_
          refine g_cc (g_rV (As := [.int (nI li), .int (nI u), .ref b, .int (nI f), .int (nI i)]) hC hP (c_X0_layLine l hP (k := k) (ln := li) (u := u) (b := b) (ch := ch) (f := f) (a := i) (by first | assumption | omega) (by first | assumption | omega) (by first | assumption | omega) (by omega) (by first | assumption | omega) (by first | assumption | omega)) hco.1 rfl ⟨q2_109, q2_106, q2_108, qs_12, q1_3⟩ dd_X0_layLine ⟨Nat.le_of_ble_eq_true rfl, Nat.le_of_ble_eq_true rfl, rfl, rfl⟩ hl.1 rfl (Nat.le_of_ble_eq_true rfl) dX0_layGaps_39 ⟨Nat.le_of_ble_eq_true rfl, Nat.le_of_ble_eq_true rfl⟩) hS (fun q h => h.elim (hTA q) (fun z => hA q (Nat.le_trans hS.1 z))) (fun r5 H1 locs2 hq6 hS hz3 hfr4 => ?_)
          obtain ⟨rfl, hP⟩ := hq6
          obtain ⟨J7, hJ7, hP⟩ : ∃ J7 : gJ, J7 = gu J2 (k + 5 + li) (gapRow (J2 (k + 5 + li)) (fun q => (I (b + 9) (i * 4 + q) - I (b + 9) (f * 4 + q)).toInt64) u 4) ∧ gP G T I J7 Q O H1 := ⟨_, rfl, hP⟩
          refine W.eq (g2 := F0 m 42 ls []) rfl ?_
          refine lv_iinc (v := nI (li + 1)) (lv' := [(5, .int (nI (li + 1))), (0, .ref k), (1, .int (nI u)), (2, .int (nI t)), (3, .ref b), (4, .int (nI f)), (6, .int (nI i))]) hx hb dX0_layGaps_42 hl (k := 5) rfl (nI_inc _) (by decide) rfl (fun ls hl => ?_)
          refine lv_iinc (v := nI (i + 1)) (lv' := [(6, .int (nI (i + 1))), (5, .int (nI (li + 1))), (0, .ref k), (1, .int (nI u)), (2, .int (nI t)), (3, .ref b), (4, .int (nI f))]) hx hb dX0_layGaps_45 hl (k := 6) rfl (nI_inc _) (by decide) rfl (fun ls hl => ?_)
          refine lv_goto (tgt := 15) hx hb dX0_layGaps_48 (by decide) ?_
          exact ih15 (i + 1) (li + 1) J7 (by omega) (by omega) (by first | (rw [rnk_t c27, h1]) | (rw [rnk_f c27, h1])) (by first | exact h2 | (intro q hq; rw [hJ7, gu_ne _ _ (by omega)]; exact h2 q hq)) (by first | exact h3 | exact gapM_step ht (by omega) c27 h1 hf hJ7 h3) _ _ hP hS ls (lv_sub hl [2, 3, 4, 5, 6, 1, 0] rfl)
  exact L15 5 (f + 1) 0 J (by omega) (by omega) (rnk_fst ht hf).symm (fun _ _ => rfl) (fun ln h => absurd h (by omega)) _ _ hP hS ls (lv_sub hl [3, 4, 5, 6, 2, 1, 0] rfl)
set_option maxHeartbeats 4000000 in
set_option maxRecDepth 100000 in
theorem c_X0_layParts (l : Launch) {G : gG} {T : gTy} {I : gI} {J : gJ} {Q : gR} {O : gO} {H : Heap} (hP : gP G T I J Q O H) {k sp u : Nat} (hco : coG T Q O k) (hks : O k 2 = .ref sp) (hms : isMx T O sp) (hu : u < 16) (hu1 : 1 ≤ u) : Met l yX0_layParts (gw yX0_layParts cX0_layParts 7 (none)) ({ frames := 2, cells := 0, slots := 0, locals := 49 } : Room) (gPc G H [.ref k, .int (nI u)]) (gQc (gF T H) (fun r H1 => r = none ∧ gP G T I (gu J (sp + 1) (parR (fun q => J (k + 5 + q)) u (J (sp + 1)) 4)) Q O H1)) 0 0 (gF T H) := by
  refine g_met [(0, .ref k), (1, .int (nI u))] (by decide) rfl (by exact Nat.le_of_ble_eq_true rfl) ?_
  intro p e s m below meth c hC hs ls hl
  have hx := hC.1.1
  have hb := hC.1.2.1
  have hS : va_S (gF T H) s.heap H [] := hs ▸ va_S.rf
  have hTA : ∀ q, (T q).1 ≠ 0 → gF T H q := fun q h => Or.inl h
  have hA : ∀ q, s.heap.size ≤ q → gF T H q := fun q h => Or.inr (hs ▸ h)
  generalize hAe : gF T H = A at hS hTA hA ⊢
  have hpc := popc_1 hu hu1
  refine lv_iload_n hx hb dX0_layParts_0 rfl (lv_at hl 1 rfl) ?_
  refine g_cp (g_rS (As := [.int (nI u)]) hC (c_J6_bitCount_0f7a4 l (u := u) (by first | assumption | omega)) ⟨q2_92, q2_90, q2_91, q1_8⟩ dd_J6_bitCount_0f7a4 ⟨Nat.le_of_ble_eq_true rfl, Nat.le_of_ble_eq_true rfl, rfl, rfl⟩ hl.1 rfl (Nat.le_of_ble_eq_true rfl) dX0_layParts_1 ⟨Nat.le_of_ble_eq_true rfl, Nat.le_of_ble_eq_true rfl⟩) ?_
  refine W.eq (g2 := F0 m 4 ls [.int (nI (popc u))]) rfl ?_
  refine lv_iconst (v := nI 1) hx hb dX0_layParts_4 (by decide) ?_
  refine lv_isub hx hb dX0_layParts_5 ?_
  refine g_topi (y := nI (popc u - 1)) (nI_subn (by omega)) ?_
  refine lv_istore_n (lv' := [(2, .int (nI (popc u - 1))), (0, .ref k), (1, .int (nI u))]) hx hb dX0_layParts_6 rfl hl (by decide) rfl (fun ls hl => ?_)
  refine lv_iconst (v := nI 0) hx hb dX0_layParts_7 (by decide) ?_
  refine lv_istore_n (lv' := [(3, .int (nI 0)), (2, .int (nI (popc u - 1))), (0, .ref k), (1, .int (nI u))]) hx hb dX0_layParts_8 rfl hl (by decide) rfl (fun ls hl => ?_)
  refine lv_iconst (v := nI 0) hx hb dX0_layParts_9 (by decide) ?_
  refine lv_istore (lv' := [(4, .int (nI 0)), (3, .int (nI 0)), (2, .int (nI (popc u - 1))), (0, .ref k), (1, .int (nI u))]) hx hb dX0_layParts_10 hl (by decide) rfl (fun ls hl => ?_)
  have L12 : ∀ (n12 : Nat) (i : Nat) (pl : Nat) (J2 : gJ), 5 ≤ n12 + i → (i ≤ 4) → (pl = rnk u i) → (J2 = gu J (sp + 1) (parR (fun q => J (k + 5 + q)) u (J (sp + 1)) i)) → ∀ (Hl : Heap) (lcl : List Loc), gP G T I J2 Q O Hl → va_S A s.heap Hl lcl → ∀ ls : Array Slot, lv_has ls 7 [(0, .ref k), (1, .int (nI u)), (2, .int (nI (popc u - 1))), (3, .int (nI pl)), (4, .int (nI i))] → W p l e ({ frames := 2, cells := 0, slots := 0, locals := 49 } : Room) s m [.ref k, .int (nI u)].toArray below meth c Hl lcl 0 0 (MQ below (gQc A (fun r H1 => r = none ∧ gP G T I (gu J (sp + 1) (parR (fun q => J (k + 5 + q)) u (J (sp + 1)) 4)) Q O H1)) [.ref k, .int (nI u)].toArray s 0 0 A) (F0 m 12 ls []) := by
    intro n12
    induction n12 with
    | zero => intro i pl J2 hn12 hi h1 h2; exact absurd hn12 (by omega)
    | succ n12 ih12 =>
      intro i pl J2 hn12 hi h1 h2 Hl lcl hP hS ls hl
      have hr := rnk_le u i
      refine lv_iload hx hb dX0_layParts_12 (lv_at hl 4 rfl) ?_
      refine lv_iconst (v := nI 4) hx hb dX0_layParts_14 (by decide) ?_
      refine lv_icmp_ge (tgt := 79) hx hb dX0_layParts_15 (by decide) (fun c15 => ?_) (fun c15 => ?_)
      · have c15 := (nI_leI (by omega) (by omega)).mp c15
        refine g_retcv hC hS ?_ dX0_layParts_79
        refine ⟨rfl, ?_⟩
        have e : i = 4 := by omega
        subst e
        subst h2
        exact hP
      · have c15 := mt (nI_leI (by omega) (by omega)).mpr c15
        refine lv_aload_n hx hb dX0_layParts_18 rfl (lv_at hl 0 rfl) ?_
        refine g_get hC hP hco.1 rfl inX0 2 (by decide) q1_64 hks dX0_layParts_19 ?_
        refine g_get hC hP hms.1 rfl inX2 0 (by decide) q1_38 hms.2.1 dX0_layParts_22 ?_
        refine lv_iload hx hb dX0_layParts_25 (lv_at hl 4 rfl) ?_
        refine lv_lconst (v := 0) hx hb dX0_layParts_27 (by decide) ?_
        refine g_last hC hP hS hTA hms.2.2 (vp_in_nI (by omega) (by decide)) dX0_layParts_28 (fun H1 locs2 hP hS hz4 => ?_)
        rw [show (nI i).toNatClampNeg = i from nI_clamp (by omega)] at hP
        obtain ⟨J3, hJ3, hP⟩ : ∃ X : gJ, X = au J2 (sp + 1) i (0 : Int64) ∧ gP G T I X Q O H1 := ⟨_, rfl, hP⟩
        have hgq : ∀ pl ln, detS (fun q => J3 (k + 5 + q)) pl ln = detS (fun q => J (k + 5 + q)) pl ln := fun pl ln => detS_congr (fun q hq => by show J3 (k + 5 + q) = J (k + 5 + q); rw [hJ3, au_ne _ _ _ (sp_ne hco hms hq), h2, gu_ne _ _ (sp_ne hco hms hq)]) pl ln
        refine lv_iload_n hx hb dX0_layParts_29 rfl (lv_at hl 1 rfl) ?_
        refine lv_iload hx hb dX0_layParts_30 (lv_at hl 4 rfl) ?_
        refine g_cp (g_rSN (As := [.int (nI u), .int (nI i)]) hC (c_X4_hasBit l (B := u) (k := i) (by first | assumption | omega) (by first | assumption | omega)) ⟨q2_11, List.mem_of_getElem? (i := 8) rfl, q2_10, q1_1⟩ dd_X4_hasBit ⟨Nat.le_of_ble_eq_true rfl, Nat.le_of_ble_eq_true rfl, rfl, rfl⟩ hl.1 rfl (Nat.le_of_ble_eq_true rfl) dX0_layParts_32 ⟨Nat.le_of_ble_eq_true rfl, Nat.le_of_ble_eq_true rfl⟩) ?_
        refine W.eq (g2 := F0 m 35 ls [.int (gb (u.testBit i))]) rfl ?_
        refine lv_if_eq (tgt := 73) hx hb dX0_layParts_35 (by decide) (fun c35 => ?_) (fun c35 => ?_)
        · have c35 := gb_f c35
          refine lv_iinc (v := nI (i + 1)) (lv' := [(4, .int (nI (i + 1))), (0, .ref k), (1, .int (nI u)), (2, .int (nI (popc u - 1))), (3, .int (nI pl))]) hx hb dX0_layParts_73 hl (k := 4) rfl (nI_inc _) (by decide) rfl (fun ls hl => ?_)
          refine lv_goto (tgt := 12) hx hb dX0_layParts_76 (by decide) ?_
          exact ih12 (i + 1) pl J3 (by omega) (by omega) (by first | (rw [rnk_t c35, h1]) | (rw [rnk_f c35, h1])) (by subst h1; simp only [*, au_gu, gu_gu]; rw [← parR_s]; unfold partF; simp [*]) _ _ hP hS ls (lv_sub hl [1, 2, 3, 4, 0] rfl)
        · have c35 := gb_t c35
          refine lv_aload_n hx hb dX0_layParts_38 rfl (lv_at hl 0 rfl) ?_
          refine lv_iload_n hx hb dX0_layParts_39 rfl (lv_at hl 3 rfl) ?_
          refine lv_iload_n hx hb dX0_layParts_40 rfl (lv_at hl 2 rfl) ?_
          refine g_cp (g_rV (As := [.int (nI pl), .int (nI (popc u - 1))]) hC hP (c_X0_gapsWithout l hP (k := k) (pl := pl) (ln := popc u - 1) (by first | assumption | omega) (by first | assumption | omega) (by first | assumption | omega)) hco.1 rfl ⟨q2_118, q2_115, q2_117, qs_14, q1_3⟩ dd_X0_gapsWithout ⟨Nat.le_of_ble_eq_true rfl, Nat.le_of_ble_eq_true rfl, rfl, rfl⟩ hl.1 rfl (Nat.le_of_ble_eq_true rfl) dX0_layParts_41 ⟨Nat.le_of_ble_eq_true rfl, Nat.le_of_ble_eq_true rfl⟩) ?_
          refine W.eq (g2 := F0 m 44 ls [.long (detS (fun q => J3 (k + 5 + q)) pl (popc u - 1))]) rfl ?_
          refine g_topl (y := detS (fun q => J (k + 5 + q)) pl (popc u - 1)) (hgq _ _) ?_
          refine lv_lstore (lv' := [(5, .long (detS (fun q => J (k + 5 + q)) pl (popc u - 1))), (0, .ref k), (1, .int (nI u)), (2, .int (nI (popc u - 1))), (3, .int (nI pl)), (4, .int (nI i))]) hx hb dX0_layParts_44 hl (by decide) rfl (fun ls hl => ?_)
          refine lv_aload_n hx hb dX0_layParts_46 rfl (lv_at hl 1 rfl) ?_
          refine g_get hC hP hco.1 rfl inX0 2 (by decide) q1_64 hks dX0_layParts_47 ?_
          refine g_get hC hP hms.1 rfl inX2 0 (by decide) q1_38 hms.2.1 dX0_layParts_50 ?_
          refine lv_iload hx hb dX0_layParts_53 (lv_at hl 5 rfl) ?_
          refine lv_iload_n hx hb dX0_layParts_55 rfl (lv_at hl 4 rfl) ?_
          refine lv_iconst (v := nI 2) hx hb dX0_layParts_56 (by decide) ?_
          refine lv_irem hx hb dX0_layParts_57 (by decide) ?_
          refine g_topi (y := nI (pl % 2)) (g_rem2 (by omega)) ?_
          refine lv_if_ne (tgt := 66) hx hb dX0_layParts_58 (by decide) (fun c58 => ?_) (fun c58 => ?_)
          · have c58 := mt (fun q => ((nI_eq (b := 0) (by omega) (by decide)).mpr q).trans nI_0) c58
            refine lv_lload hx hb dX0_layParts_66 (lv_at hl 0 rfl) ?_
            refine lv_lneg hx hb dX0_layParts_68 ?_
            refine g_last hC hP hS hTA hms.2.2 (vp_in_nI (by omega) (by decide)) dX0_layParts_69 (fun H5 locs6 hP hS hz8 => ?_)
            rw [show (nI i).toNatClampNeg = i from nI_clamp (by omega)] at hP
            obtain ⟨J7, hJ7, hP⟩ : ∃ X : gJ, X = au J3 (sp + 1) i (-(detS (fun q => J (k + 5 + q)) pl (popc u - 1))) ∧ gP G T I X Q O H5 := ⟨_, rfl, hP⟩
            refine lv_iinc (v := nI (pl + 1)) (lv' := [(3, .int (nI (pl + 1))), (5, .long (detS (fun q => J (k + 5 + q)) pl (popc u - 1))), (0, .ref k), (1, .int (nI u)), (2, .int (nI (popc u - 1))), (4, .int (nI i))]) hx hb dX0_layParts_70 hl (k := 4) rfl (nI_inc _) (by decide) rfl (fun ls hl => ?_)
            refine lv_iinc (v := nI (i + 1)) (lv' := [(4, .int (nI (i + 1))), (3, .int (nI (pl + 1))), (5, .long (detS (fun q => J (k + 5 + q)) pl (popc u - 1))), (0, .ref k), (1, .int (nI u)), (2, .int (nI (popc u - 1)))]) hx hb dX0_layParts_73 hl (k := 5) rfl (nI_inc _) (by decide) rfl (fun ls hl => ?_)
            refine lv_goto (tgt := 12) hx hb dX0_layParts_76 (by decide) ?_
            exact ih12 (i + 1) (pl + 1) J7 (by omega) (by omega) (by first | (rw [rnk_t c35, h1]) | (rw [rnk_f c35, h1])) (by subst h1; simp only [*, au_gu, gu_gu]; rw [← parR_s]; unfold partF; simp [*]) _ _ hP hS ls (lv_sub hl [3, 4, 5, 1, 0] rfl)
          · have c58 := (nI_eq (by omega) (by decide)).mp (c58.trans nI_0.symm)
            refine lv_lload hx hb dX0_layParts_61 (lv_at hl 0 rfl) ?_
            refine lv_goto (tgt := 69) hx hb dX0_layParts_63 (by decide) ?_
            refine g_last hC hP hS hTA hms.2.2 (vp_in_nI (by omega) (by decide)) dX0_layParts_69 (fun H9 locs10 hP hS hz12 => ?_)
            rw [show (nI i).toNatClampNeg = i from nI_clamp (by omega)] at hP
            obtain ⟨J11, hJ11, hP⟩ : ∃ X : gJ, X = au J3 (sp + 1) i (detS (fun q => J (k + 5 + q)) pl (popc u - 1)) ∧ gP G T I X Q O H9 := ⟨_, rfl, hP⟩
            refine lv_iinc (v := nI (pl + 1)) (lv' := [(3, .int (nI (pl + 1))), (5, .long (detS (fun q => J (k + 5 + q)) pl (popc u - 1))), (0, .ref k), (1, .int (nI u)), (2, .int (nI (popc u - 1))), (4, .int (nI i))]) hx hb dX0_layParts_70 hl (k := 4) rfl (nI_inc _) (by decide) rfl (fun ls hl => ?_)
            refine lv_iinc (v := nI (i + 1)) (lv' := [(4, .int (nI (i + 1))), (3, .int (nI (pl + 1))), (5, .long (detS (fun q => J (k + 5 + q)) pl (popc u - 1))), (0, .ref k), (1, .int (nI u)), (2, .int (nI (popc u - 1)))]) hx hb dX0_layParts_73 hl (k := 5) rfl (nI_inc _) (by decide) rfl (fun ls hl => ?_)
            refine lv_goto (tgt := 12) hx hb dX0_layParts_76 (by decide) ?_
            exact ih12 (i + 1) (pl + 1) J11 (by omega) (by omega) (by first | (rw [rnk_t c35, h1]) | (rw [rnk_f c35, h1])) (by subst h1; simp only [*, au_gu, gu_gu]; rw [← parR_s]; unfold partF; simp [*]) _ _ hP hS ls (lv_sub hl [3, 4, 5, 1, 0] rfl)
  exact L12 5 0 0 J (by omega) (by omega) rfl (by rw [show parR (fun q => J (k + 5 + q)) u (J (sp + 1)) 0 = J (sp + 1) from funext fun j => by simp [parR], gu_self]) _ _ hP hS ls (lv_sub hl [3, 4, 2, 1, 0] rfl)
