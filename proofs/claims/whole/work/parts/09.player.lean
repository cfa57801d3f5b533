/-! ===== players and mixes in the memory ===== -/
/-- the cells that a method may change: those of its memory, and new ones -/
def gF (T : gTy) (H : Heap) : Nat → Prop := fun q => (T q).1 ≠ 0 ∨ H.size ≤ q
/-- a Player at b with ch choices: corners at b + 1, pays at b + 9, weights at b + 10, tray at b + 11 -/
def isPl (T : gTy) (O : gO) (b ch : Nat) : Prop := T b = (1, 3) ∧ O b 0 = .int (nI ch) ∧ O b 1 = .ref (b + 1) ∧ O b 2 = .ref (b + 9) ∧ O b 3 = .ref (b + 10) ∧ O b 4 = .ref (b + 11) ∧ T (b + 9) = (2, 16) ∧ T (b + 10) = (2, 4) ∧ 1 ≤ ch ∧ ch ≤ 4
/-- a Mix at a, its parts behind it -/
def isMx (T : gTy) (O : gO) (a : Nat) : Prop := T a = (1, 2) ∧ O a 0 = .ref (a + 1) ∧ T (a + 1) = (3, 4)
/-- its total, used bits, answers -/
def mxV (O : gO) (a : Nat) (t : Int64) (u n : Nat) : Prop := O a 1 = .long t ∧ O a 2 = .int (nI u) ∧ O a 3 = .int (nI n)
/-- what a choice is worth against a mix: sums over the other's choices -/
def wsum (P : Nat → Int32) (X : Nat → Int64) (own : Nat) : Nat → Int64
  | 0 => 0
  | k + 1 => wsum P X own k + X k * (P (own * 4 + k)).toInt64
/-- the greatest worth so far, and the choices that have it -/
def ansS (w mo : Int64) (be i : Nat) : Int64 × Nat := if mo < w then (w, 2 ^ i) else if w = mo then (mo, be ||| 2 ^ i) else (mo, be)
def ansL (f : Nat → Int64) : Nat → Int64 × Nat
  | 0 => (f 0, 1)
  | k + 1 => ansS (f (k + 1)) (ansL f k).1 (ansL f k).2 (k + 1)
theorem ansS_lt {w mo : Int64} {be i : Nat} (h : be < 2 ^ i) : (ansS w mo be i).2 < 2 ^ (i + 1) := by
  have h1 : 2 ^ i < 2 ^ (i + 1) := Nat.pow_lt_pow_right (by decide) (Nat.lt_succ_self i)
  unfold ansS
  split
  · exact h1
  · split
    · exact Nat.or_lt_two_pow (Nat.lt_trans h h1) h1
    · exact Nat.lt_trans h h1
theorem ansL_lt (f : Nat → Int64) : ∀ k, (ansL f k).2 < 2 ^ (k + 1)
  | 0 => by show 1 < 2; decide
  | k + 1 => ansS_lt (ansL_lt f k)
theorem ansL_lt16 (f : Nat → Int64) {k : Nat} (h : k < 4) : (ansL f k).2 < 16 := Nat.lt_of_lt_of_le (ansL_lt f k) (by
  have : ∀ k, k < 4 → 2 ^ (k + 1) ≤ 16 := by decide
  exact this k h)
/-- the choices' answers to a mix -/
def ansB (P : Nat → Int32) (X : Nat → Int64) (ch : Nat) : Nat := (ansL (fun o => wsum P X o 4) (ch - 1)).2
theorem ansB_lt {P : Nat → Int32} {X : Nat → Int64} {ch : Nat} (h : ch ≤ 4) : ansB P X ch < 16 := ansL_lt16 _ (by omega)
/-- a pays more than c against each of the others' B -/
def pMore (P : Nat → Int32) (a c B : Nat) : Bool := (List.range 4).all (fun k => !B.testBit k || decide (P (c * 4 + k) < P (a * 4 + k)))
theorem pMore_iff {P : Nat → Int32} {a c B : Nat} : pMore P a c B = true ↔ ∀ k, k < 4 → B.testBit k = true → P (c * 4 + k) < P (a * 4 + k) := by
  simp only [pMore, List.all_eq_true, List.mem_range, Bool.or_eq_true, Bool.not_eq_true', decide_eq_true_eq]
  constructor
  · intro h k hk hb
    rcases h k hk with h | h
    · rw [hb] at h; cases h
    · exact h
  · intro h k hk
    by_cases hb : B.testBit k = true
    · exact Or.inr (h k hk hb)
    · exact Or.inl (by simpa using hb)
/-- a choice that is there -/
def inR (x : Int32) (n : Nat) : Bool := decide (0 ≤ x) && decide (x < nI n)
theorem inR_f1 {x : Int32} {n : Nat} (h : x < 0) : inR x n = false := by
  simp only [inR, Bool.and_eq_false_iff, decide_eq_false_iff_not, Int32.le_iff_toInt_le, Int32.lt_iff_toInt_lt] at *
  omega
theorem inR_f2 {x : Int32} {n : Nat} (h : nI n ≤ x) : inR x n = false := by
  simp only [inR, Bool.and_eq_false_iff, decide_eq_false_iff_not, Int32.le_iff_toInt_le, Int32.lt_iff_toInt_lt] at *
  omega
theorem inR_t {x : Int32} {n : Nat} (h : ¬ x < 0) (h2 : ¬ nI n ≤ x) : inR x n = true := by
  simp only [inR, Bool.and_eq_true, decide_eq_true_eq, Int32.le_iff_toInt_le, Int32.lt_iff_toInt_lt] at *
  omega
theorem inR_nI {x : Int32} {n : Nat} (hn : n < 2 ^ 31) (h : inR x n = true) : ∃ j : Nat, j < n ∧ x = nI j := by
  simp only [inR, Bool.and_eq_true, decide_eq_true_eq] at h
  obtain ⟨j, h1, rfl⟩ := nI_of (x := x) (by have := h.1; simp only [Int32.le_iff_toInt_le, Int32.lt_iff_toInt_lt] at *; omega)
  exact ⟨j, (nI_ltI h1 hn).mp h.2, rfl⟩
/-- the first of 0 .. 3 with p -/
def fst4 (p : Nat → Bool) : Option Nat := (List.range 4).find? p
theorem fst4_some {p : Nat → Bool} {i : Nat} (h4 : i < 4) (h : p i = true) (hb : ∀ k, k < i → p k = false) : fst4 p = some i := by
  have e : fst4 p = if p 0 then some 0 else if p 1 then some 1 else if p 2 then some 2 else if p 3 then some 3 else none := by
    simp [fst4, List.range, List.range.loop, List.find?]
    split <;> simp_all
    split <;> simp_all
    split <;> simp_all
    split <;> simp_all
  rw [e]
  rcases (show i = 0 ∨ i = 1 ∨ i = 2 ∨ i = 3 by omega) with rfl | rfl | rfl | rfl
  · simp [h]
  · simp [h, hb 0]
  · simp [h, hb 0, hb 1]
  · simp [h, hb 0, hb 1, hb 2]
theorem fst4_none {p : Nat → Bool} (hb : ∀ k, k < 4 → p k = false) : fst4 p = none := by
  unfold fst4
  rw [List.find?_eq_none]
  intro x hx
  rw [hb x (List.mem_range.mp hx)]
  decide
theorem fst4_lt {p : Nat → Bool} {i : Nat} (h : fst4 p = some i) : i < 4 ∧ p i = true := by
  have h1 := List.mem_of_find?_eq_some h
  exact ⟨List.mem_range.mp h1, List.find?_some h⟩
/-- a number, or -9 -/
def oI (o : Option Nat) : Int32 := match o with
  | some k => nI k
  | none => -9
theorem oI_none {o : Option Nat} (h : ∀ k, o = some k → k < 2 ^ 31) : oI o = -9 ↔ o = none := by
  cases o with
  | none => simp [oI]
  | some k =>
    simp only [oI, reduceCtorEq, iff_false]
    intro e
    have h1 := nI_pos (h k rfl)
    rw [e] at h1
    exact h1 (by decide)
def fBet (P : Nat → Int32) (c A B : Nat) : Option Nat := fst4 (fun a => A.testBit a && pMore P a c B)
/-- the choices below k with p, as bits -/
def msk (p : Nat → Bool) : Nat → Nat
  | 0 => 0
  | k + 1 => if p k then msk p k ||| 2 ^ k else msk p k
theorem msk_lt (p : Nat → Bool) : ∀ k, msk p k < 2 ^ k
  | 0 => by show 0 < 1; decide
  | k + 1 => by
    have h := msk_lt p k
    have h1 : 2 ^ k < 2 ^ (k + 1) := Nat.pow_lt_pow_right (by decide) (Nat.lt_succ_self k)
    unfold msk
    split
    · exact Nat.or_lt_two_pow (Nat.lt_trans h h1) h1
    · exact Nat.lt_trans h h1
theorem pow_lt16 {k : Nat} (h : k < 4) : 2 ^ k < 16 := by
  have : ∀ k, k < 4 → 2 ^ k < 16 := by decide
  exact this k h
theorem msk_lt16 (p : Nat → Bool) {k : Nat} (h : k ≤ 4) : msk p k < 16 := Nat.lt_of_lt_of_le (msk_lt p k) (by
  have : ∀ k, k ≤ 4 → 2 ^ k ≤ 16 := by decide
  exact this k h)
def nWor (P : Nat → Int32) (A B : Nat) : Nat := msk (fun c => A.testBit c && (fBet P c A B).isNone) 4
theorem nWor_lt {P : Nat → Int32} {A B : Nat} : nWor P A B < 16 := msk_lt16 _ (Nat.le_refl 4)
set_option maxHeartbeats 4000000 in
set_option maxRecDepth 100000 in
theorem c_X3_payFor (l : Launch) {G : gG} {T : gTy} {I : gI} {J : gJ} {Q : gR} {O : gO} {H : Heap} (hP : gP G T I J Q O H) {b ch i k : Nat} (hpl : isPl T O b ch) (hi : i < 4) (hk : k < 4) : Met l yX3_payFor (gw yX3_payFor cX3_payFor 3 (some (.int))) ({ frames := 0, cells := 0, slots := 0, locals := 0 } : Room) (gPc G H [.ref b, .int (nI i), .int (nI k)]) (gQp (some (.int (I (b + 9) (i * 4 + k))))) 0 0 (fun _ => False) := by
  refine g_met [(0, .ref b), (1, .int (nI i)), (2, .int (nI k))] (by decide) rfl (by exact Nat.le_of_ble_eq_true rfl) ?_
  intro p e s m below meth c hC hs ls hl
  have hx := hC.1.1
  have hb := hC.1.2.1
  have hpl_lo := hpl.2.2.2.2.2.2.2.2.1
  have hpl_hi := hpl.2.2.2.2.2.2.2.2.2
  refine lv_aload_n hx hb dX3_payFor_0 rfl (lv_at hl 0 rfl) ?_
  refine g_get hC hP hpl.1 rfl inX3 2 (by decide) q1_81 hpl.2.2.2.1 dX3_payFor_1 ?_
  refine lv_iload_n hx hb dX3_payFor_4 rfl (lv_at hl 1 rfl) ?_
  refine lv_iconst (v := nI 4) hx hb dX3_payFor_5 (by decide) ?_
  refine lv_imul hx hb dX3_payFor_6 ?_
  refine g_topi (y := nI (i * 4)) (nI_mul _ _) ?_
  refine lv_iload_n hx hb dX3_payFor_7 rfl (lv_at hl 2 rfl) ?_
  refine lv_iadd hx hb dX3_payFor_8 ?_
  refine g_topi (y := nI (i * 4 + k)) (nI_add _ _) ?_
  refine g_iald hC hP hpl.2.2.2.2.2.2.1 (vp_in_nI (by omega) (by decide)) dX3_payFor_9 ?_
  refine g_topi (y := I (b + 9) (i * 4 + k)) (congrArg (I (b + 9)) (nI_clamp (by omega))) ?_
  exact g_reti hC hs rfl dX3_payFor_10
set_option maxHeartbeats 4000000 in
set_option maxRecDepth 100000 in
theorem c_X3_allBits (l : Launch) {G : gG} {T : gTy} {I : gI} {J : gJ} {Q : gR} {O : gO} {H : Heap} (hP : gP G T I J Q O H) {b ch : Nat} (hpl : isPl T O b ch) : Met l yX3_allBits (gw yX3_allBits cX3_allBits 1 (some (.int))) ({ frames := 0, cells := 0, slots := 0, locals := 0 } : Room) (gPc G H [.ref b]) (gQp (some (.int (nI (2 ^ ch - 1))))) 0 0 (fun _ => False) := by
  refine g_met [(0, .ref b)] (by decide) rfl (by exact Nat.le_of_ble_eq_true rfl) ?_
  intro p e s m below meth c hC hs ls hl
  have hx := hC.1.1
  have hb := hC.1.2.1
  have hpl_lo := hpl.2.2.2.2.2.2.2.2.1
  have hpl_hi := hpl.2.2.2.2.2.2.2.2.2
  refine lv_iconst (v := nI 1) hx hb dX3_allBits_0 (by decide) ?_
  refine lv_aload_n hx hb dX3_allBits_1 rfl (lv_at hl 0 rfl) ?_
  refine g_get hC hP hpl.1 rfl inX3 0 (by decide) q1_77 hpl.2.1 dX3_allBits_2 ?_
  refine lv_ishl hx hb dX3_allBits_5 ?_
  refine g_topi (y := nI (2 ^ ch)) (g_shl (by omega)) ?_
  refine lv_iconst (v := nI 1) hx hb dX3_allBits_6 (by decide) ?_
  refine lv_isub hx hb dX3_allBits_7 ?_
  refine g_topi (y := nI (2 ^ ch - 1)) (nI_subn Nat.one_le_two_pow) ?_
  exact g_reti hC hs rfl dX3_allBits_8
set_option maxHeartbeats 4000000 in
set_option maxRecDepth 100000 in
theorem c_X3_hasChoice (l : Launch) {G : gG} {T : gTy} {I : gI} {J : gJ} {Q : gR} {O : gO} {H : Heap} (hP : gP G T I J Q O H) {b ch : Nat} {q : Int32} (hpl : isPl T O b ch) : Met l yX3_hasChoice (gw yX3_hasChoice cX3_hasChoice 2 (some (.boolean))) ({ frames := 0, cells := 0, slots := 0, locals := 0 } : Room) (gPc G H [.ref b, .int q]) (gQp (some (.int (gb (inR q ch))))) 0 0 (fun _ => False) := by
  refine g_met [(0, .ref b), (1, .int q)] (by decide) rfl (by exact Nat.le_of_ble_eq_true rfl) ?_
  intro p e s m below meth c hC hs ls hl
  have hx := hC.1.1
  have hb := hC.1.2.1
  have hpl_lo := hpl.2.2.2.2.2.2.2.2.1
  have hpl_hi := hpl.2.2.2.2.2.2.2.2.2
  refine lv_iload_n hx hb dX3_hasChoice_0 rfl (lv_at hl 1 rfl) ?_
  refine lv_if_lt (tgt := 16) hx hb dX3_hasChoice_1 (by decide) (fun c1 => ?_) (fun c1 => ?_)
  · have hr := inR_f1 (n := ch) c1
    refine lv_iconst (v := nI 0) hx hb dX3_hasChoice_16 (by decide) ?_
    refine g_retz hC hs ?_ dX3_hasChoice_17
    rw [hr]; rfl
  · refine lv_iload_n hx hb dX3_hasChoice_4 rfl (lv_at hl 1 rfl) ?_
    refine lv_aload_n hx hb dX3_hasChoice_5 rfl (lv_at hl 0 rfl) ?_
    refine g_get hC hP hpl.1 rfl inX3 0 (by decide) q1_77 hpl.2.1 dX3_hasChoice_6 ?_
    refine lv_icmp_ge (tgt := 16) hx hb dX3_hasChoice_9 (by decide) (fun c9 => ?_) (fun c9 => ?_)
    · have hr := inR_f2 c9
      refine lv_iconst (v := nI 0) hx hb dX3_hasChoice_16 (by decide) ?_
      refine g_retz hC hs ?_ dX3_hasChoice_17
      rw [hr]; rfl
    · have hr := inR_t c1 c9
      refine lv_iconst (v := nI 1) hx hb dX3_hasChoice_12 (by decide) ?_
      refine lv_goto (tgt := 17) hx hb dX3_hasChoice_13 (by decide) ?_
      refine g_retz hC hs ?_ dX3_hasChoice_17
      rw [hr]; rfl
set_option maxHeartbeats 4000000 in
set_option maxRecDepth 100000 in
theorem c_X4_hasBit (l : Launch) {G : gG} {H : Heap} {B k : Nat} (hB : B < 16) (hk : k < 4) : Met l yX4_hasBit (gw yX4_hasBit cX4_hasBit 2 (some (.boolean))) ({ frames := 0, cells := 0, slots := 0, locals := 0 } : Room) (gPc G H [.int (nI B), .int (nI k)]) (gQp (some (.int (gb (B.testBit k))))) 0 0 (fun _ => False) := by
  refine g_met [(0, .int (nI B)), (1, .int (nI k))] (by decide) rfl (by exact Nat.le_of_ble_eq_true rfl) ?_
  intro p e s m below meth c hC hs ls hl
  have hx := hC.1.1
  have hb := hC.1.2.1
  refine lv_iload_n hx hb dX4_hasBit_0 rfl (lv_at hl 0 rfl) ?_
  refine lv_iload_n hx hb dX4_hasBit_1 rfl (lv_at hl 1 rfl) ?_
  refine lv_ishr hx hb dX4_hasBit_2 ?_
  refine lv_iconst (v := nI 1) hx hb dX4_hasBit_3 (by decide) ?_
  refine lv_iand hx hb dX4_hasBit_4 ?_
  refine g_topi (y := nI (if B.testBit k then 1 else 0)) (g_bit hB hk) ?_
  refine lv_iconst (v := nI 1) hx hb dX4_hasBit_5 (by decide) ?_
  refine lv_icmp_ne (tgt := 13) hx hb dX4_hasBit_6 (by decide) (fun c6 => ?_) (fun c6 => ?_)
  · have c6 : B.testBit k = false := by by_cases h : B.testBit k = true <;> simp_all
    refine lv_iconst (v := nI 0) hx hb dX4_hasBit_13 (by decide) ?_
    refine g_retz hC hs ?_ dX4_hasBit_14
    simp_all [gb, nI]
  · have c6 : B.testBit k = true := by by_cases h : B.testBit k = true <;> simp_all [nI]
    refine lv_iconst (v := nI 1) hx hb dX4_hasBit_9 (by decide) ?_
    refine lv_goto (tgt := 14) hx hb dX4_hasBit_10 (by decide) ?_
    refine g_retz hC hs ?_ dX4_hasBit_14
    simp_all [gb, nI]
set_option maxHeartbeats 4000000 in
set_option maxRecDepth 100000 in
theorem c_X3_worthOf (l : Launch) {G : gG} {T : gTy} {I : gI} {J : gJ} {Q : gR} {O : gO} {H : Heap} (hP : gP G T I J Q O H) {b ch own x : Nat} (hpl : isPl T O b ch) (hmx : isMx T O x) (ho : own < 4) : Met l yX3_worthOf (gw yX3_worthOf cX3_worthOf 6 (some (.long))) ({ frames := 1, cells := 0, slots := 0, locals := 22 } : Room) (gPc G H [.ref b, .int (nI own), .ref x]) (gQp (some (.long (wsum (I (b + 9)) (J (x + 1)) own 4)))) 0 0 (fun _ => False) := by
  refine g_met [(0, .ref b), (1, .int (nI own)), (2, .ref x)] (by decide) rfl (by exact Nat.le_of_ble_eq_true rfl) ?_
  intro p e s m below meth c hC hs ls hl
  have hx := hC.1.1
  have hb := hC.1.2.1
  have hpl_lo := hpl.2.2.2.2.2.2.2.2.1
  have hpl_hi := hpl.2.2.2.2.2.2.2.2.2
  refine lv_lconst (v := 0) hx hb dX3_worthOf_0 (by decide) ?_
  refine lv_lstore_n (lv' := [(3, .long (0 : Int64)), (0, .ref b), (1, .int (nI own)), (2, .ref x)]) hx hb dX3_worthOf_1 rfl hl (by decide) rfl (fun ls hl => ?_)
  refine lv_iconst (v := nI 0) hx hb dX3_worthOf_2 (by decide) ?_
  refine lv_istore (lv' := [(5, .int (nI 0)), (3, .long (0 : Int64)), (0, .ref b), (1, .int (nI own)), (2, .ref x)]) hx hb dX3_worthOf_3 hl (by decide) rfl (fun ls hl => ?_)
  have L5 : ∀ (n5 : Nat) (i : Nat), 5 ≤ n5 + i → (i ≤ 4) → ∀ ls : Array Slot, lv_has ls 6 [(0, .ref b), (1, .int (nI own)), (2, .ref x), (3, .long (wsum (I (b + 9)) (J (x + 1)) own i)), (5, .int (nI i))] → W p l e ({ frames := 1, cells := 0, slots := 0, locals := 22 } : Room) s m [.ref b, .int (nI own), .ref x].toArray below meth c H [] 0 0 (MQ below (gQp (some (.long (wsum (I (b + 9)) (J (x + 1)) own 4)))) [.ref b, .int (nI own), .ref x].toArray s 0 0 (fun _ => False)) (F0 m 5 ls []) := by
    intro n5
    induction n5 with
    | zero => intro i hn5 hi; exact absurd hn5 (by omega)
    | succ n5 ih5 =>
      intro i hn5 hi ls hl
      refine lv_iload hx hb dX3_worthOf_5 (lv_at hl 4 rfl) ?_
      refine lv_iconst (v := nI 4) hx hb dX3_worthOf_7 (by decide) ?_
      refine lv_icmp_ge (tgt := 36) hx hb dX3_worthOf_8 (by decide) (fun c8 => ?_) (fun c8 => ?_)
      · have c8 := (nI_leI (by omega) (by omega)).mp c8
        refine lv_lload_n hx hb dX3_worthOf_36 rfl (lv_at hl 3 rfl) ?_
        refine g_retl hC hs ?_ dX3_worthOf_37
        have h4 : i = 4 := by omega
        subst h4; rfl
      · have c8 := mt (nI_leI (by omega) (by omega)).mpr c8
        refine lv_lload_n hx hb dX3_worthOf_11 rfl (lv_at hl 3 rfl) ?_
        refine lv_aload_n hx hb dX3_worthOf_12 rfl (lv_at hl 2 rfl) ?_
        refine g_get hC hP hmx.1 rfl inX2 0 (by decide) q1_37 hmx.2.1 dX3_worthOf_13 ?_
        refine lv_iload hx hb dX3_worthOf_16 (lv_at hl 4 rfl) ?_
        refine g_lald hC hP hmx.2.2 (vp_in_nI (by omega) (by decide)) dX3_worthOf_18 ?_
        refine g_topl (y := J (x + 1) i) (congrArg (J (x + 1)) (nI_clamp (by omega))) ?_
        refine lv_aload_n hx hb dX3_worthOf_19 rfl (lv_at hl 0 rfl) ?_
        refine lv_iload_n hx hb dX3_worthOf_20 rfl (lv_at hl 1 rfl) ?_
        refine lv_iload hx hb dX3_worthOf_21 (lv_at hl 4 rfl) ?_
        refine g_cp (g_rV (As := [.int (nI own), .int (nI i)]) hC hP (c_X3_payFor l hP (b := b) (ch := ch) (i := own) (k := i) (by first | assumption | omega) (by first | assumption | omega) (by first | assumption | omega)) hpl.1 rfl ⟨q1_170, q1_216, q1_168, q1_169, q1_2⟩ dd_X3_payFor ⟨Nat.le_of_ble_eq_true rfl, Nat.le_of_ble_eq_true rfl, rfl, rfl⟩ hl.1 rfl (Nat.le_of_ble_eq_true rfl) dX3_worthOf_23 ⟨Nat.le_of_ble_eq_true rfl, Nat.le_of_ble_eq_true rfl⟩) ?_
        refine W.eq (g2 := F0 m 26 ls [.int (I (b + 9) (own * 4 + i)), .long (J (x + 1) i), .long (wsum (I (b + 9)) (J (x + 1)) own i)]) rfl ?_
        refine lv_i2l hx hb dX3_worthOf_26 rfl ?_
        refine lv_lmul hx hb dX3_worthOf_27 ?_
        refine lv_ladd hx hb dX3_worthOf_28 ?_
        refine lv_lstore_n (lv' := [(3, .long ((wsum (I (b + 9)) (J (x + 1)) own i) + ((J (x + 1) i) * ((I (b + 9) (own * 4 + i)).toInt64)))), (0, .ref b), (1, .int (nI own)), (2, .ref x), (5, .int (nI i))]) hx hb dX3_worthOf_29 rfl hl (by decide) rfl (fun ls hl => ?_)
        refine lv_iinc (v := nI (i + 1)) (lv' := [(5, .int (nI (i + 1))), (3, .long ((wsum (I (b + 9)) (J (x + 1)) own i) + ((J (x + 1) i) * ((I (b + 9) (own * 4 + i)).toInt64)))), (0, .ref b), (1, .int (nI own)), (2, .ref x)]) hx hb dX3_worthOf_30 hl (k := 4) rfl (nI_inc _) (by decide) rfl (fun ls hl => ?_)
        refine lv_goto (tgt := 5) hx hb dX3_worthOf_33 (by decide) ?_
        exact ih5 (i + 1) (by omega) (by omega) ls (lv_sub hl [2, 3, 4, 1, 0] rfl)
  exact L5 5 0 (by omega) (by omega) ls (lv_sub hl [2, 3, 4, 1, 0] rfl)
set_option maxHeartbeats 4000000 in
set_option maxRecDepth 100000 in
theorem c_X3_answersTo (l : Launch) {G : gG} {T : gTy} {I : gI} {J : gJ} {Q : gR} {O : gO} {H : Heap} (hP : gP G T I J Q O H) {b ch x : Nat} (hpl : isPl T O b ch) (hmx : isMx T O x) : Met l yX3_answersTo (gw yX3_answersTo cX3_answersTo 8 (some (.int))) ({ frames := 2, cells := 0, slots := 0, locals := 47 } : Room) (gPc G H [.ref b, .ref x]) (gQp (some (.int (nI (ansB (I (b + 9)) (J (x + 1)) ch))))) 0 0 (fun _ => False) := by
  refine g_met [(0, .ref b), (1, .ref x)] (by decide) rfl (by exact Nat.le_of_ble_eq_true rfl) ?_
  intro p e s m below meth c hC hs ls hl
  have hx := hC.1.1
  have hb := hC.1.2.1
  have hpl_lo := hpl.2.2.2.2.2.2.2.2.1
  have hpl_hi := hpl.2.2.2.2.2.2.2.2.2
  refine lv_aload_n hx hb dX3_answersTo_0 rfl (lv_at hl 0 rfl) ?_
  refine lv_iconst (v := nI 0) hx hb dX3_answersTo_1 (by decide) ?_
  refine lv_aload_n hx hb dX3_answersTo_2 rfl (lv_at hl 1 rfl) ?_
  refine g_cp (g_rV (As := [.int (nI 0), .ref x]) hC hP (c_X3_worthOf l hP (b := b) (ch := ch) (own := 0) (x := x) (by first | assumption | omega) (by first | assumption | omega) (by first | assumption | omega)) hpl.1 rfl ⟨q1_215, q1_212, q1_214, qs_6, q1_2⟩ dd_X3_worthOf ⟨Nat.le_of_ble_eq_true rfl, Nat.le_of_ble_eq_true rfl, rfl, rfl⟩ hl.1 rfl (Nat.le_of_ble_eq_true rfl) dX3_answersTo_3 ⟨Nat.le_of_ble_eq_true rfl, Nat.le_of_ble_eq_true rfl⟩) ?_
  refine W.eq (g2 := F0 m 6 ls [.long (wsum (I (b + 9)) (J (x + 1)) 0 4)]) rfl ?_
  refine lv_lstore_n (lv' := [(2, .long (wsum (I (b + 9)) (J (x + 1)) 0 4)), (0, .ref b), (1, .ref x)]) hx hb dX3_answersTo_6 rfl hl (by decide) rfl (fun ls hl => ?_)
  refine lv_iconst (v := nI 1) hx hb dX3_answersTo_7 (by decide) ?_
  refine lv_istore (lv' := [(4, .int (nI 1)), (2, .long (wsum (I (b + 9)) (J (x + 1)) 0 4)), (0, .ref b), (1, .ref x)]) hx hb dX3_answersTo_8 hl (by decide) rfl (fun ls hl => ?_)
  refine lv_iconst (v := nI 1) hx hb dX3_answersTo_10 (by decide) ?_
  refine lv_istore (lv' := [(5, .int (nI 1)), (4, .int (nI 1)), (2, .long (wsum (I (b + 9)) (J (x + 1)) 0 4)), (0, .ref b), (1, .ref x)]) hx hb dX3_answersTo_11 hl (by decide) rfl (fun ls hl => ?_)
  have L13 : ∀ (n13 : Nat) (i : Nat) (mo : Int64) (be : Nat), 5 ≤ n13 + i → (1 ≤ i ∧ i ≤ ch) → ((mo, be) = ansL (fun o => wsum (I (b + 9)) (J (x + 1)) o 4) (i - 1)) → ∀ ls : Array Slot, lv_has ls 8 [(0, .ref b), (1, .ref x), (2, .long mo), (4, .int (nI be)), (5, .int (nI i))] → W p l e ({ frames := 2, cells := 0, slots := 0, locals := 47 } : Room) s m [.ref b, .ref x].toArray below meth c H [] 0 0 (MQ below (gQp (some (.int (nI (ansB (I (b + 9)) (J (x + 1)) ch))))) [.ref b, .ref x].toArray s 0 0 (fun _ => False)) (F0 m 13 ls []) := by
    intro n13
    induction n13 with
    | zero => intro i mo be hn13 hi h1; exact absurd hn13 (by omega)
    | succ n13 ih13 =>
      intro i mo be hn13 hi h1 ls hl
      have hbe : be < 16 := by have := ansL_lt16 (fun o => wsum (I (b + 9)) (J (x + 1)) o 4) (k := i - 1) (by omega); rw [← h1] at this; exact this
      refine lv_iload hx hb dX3_answersTo_13 (lv_at hl 4 rfl) ?_
      refine lv_aload_n hx hb dX3_answersTo_15 rfl (lv_at hl 0 rfl) ?_
      refine g_get hC hP hpl.1 rfl inX3 0 (by decide) q1_77 hpl.2.1 dX3_answersTo_16 ?_
      refine lv_icmp_ge (tgt := 66) hx hb dX3_answersTo_19 (by decide) (fun c19 => ?_) (fun c19 => ?_)
      · have c19 := (nI_leI (by omega) (by omega)).mp c19
        refine lv_iload hx hb dX3_answersTo_66 (lv_at hl 3 rfl) ?_
        refine g_reti hC hs ?_ dX3_answersTo_68
        rw [show ansB (I (b + 9)) (J (x + 1)) ch = be from by unfold ansB; rw [show ch - 1 = i - 1 from by omega, ← h1]]
      · have c19 := mt (nI_leI (by omega) (by omega)).mpr c19
        have hp2 := pow_lt16 (k := i) (by omega)
        refine lv_aload_n hx hb dX3_answersTo_22 rfl (lv_at hl 0 rfl) ?_
        refine lv_iload hx hb dX3_answersTo_23 (lv_at hl 4 rfl) ?_
        refine lv_aload_n hx hb dX3_answersTo_25 rfl (lv_at hl 1 rfl) ?_
        refine g_cp (g_rV (As := [.int (nI i), .ref x]) hC hP (c_X3_worthOf l hP (b := b) (ch := ch) (own := i) (x := x) (by first | assumption | omega) (by first | assumption | omega) (by first | assumption | omega)) hpl.1 rfl ⟨q1_215, q1_212, q1_214, qs_6, q1_2⟩ dd_X3_worthOf ⟨Nat.le_of_ble_eq_true rfl, Nat.le_of_ble_eq_true rfl, rfl, rfl⟩ hl.1 rfl (Nat.le_of_ble_eq_true rfl) dX3_answersTo_26 ⟨Nat.le_of_ble_eq_true rfl, Nat.le_of_ble_eq_true rfl⟩) ?_
        refine W.eq (g2 := F0 m 29 ls [.long (wsum (I (b + 9)) (J (x + 1)) i 4)]) rfl ?_
        refine lv_lstore (lv' := [(6, .long (wsum (I (b + 9)) (J (x + 1)) i 4)), (0, .ref b), (1, .ref x), (2, .long mo), (4, .int (nI be)), (5, .int (nI i))]) hx hb dX3_answersTo_29 hl (by decide) rfl (fun ls hl => ?_)
        refine lv_lload hx hb dX3_answersTo_31 (lv_at hl 0 rfl) ?_
        refine lv_lload_n hx hb dX3_answersTo_33 rfl (lv_at hl 3 rfl) ?_
        refine W.lcmp hx hb dX3_answersTo_34 ?_
        refine lv_if_le (tgt := 44) hx hb dX3_answersTo_35 (by decide) (fun c35 => ?_) (fun c35 => ?_)
        · have c35 := (lg_cmp_le _ _).mp c35
          have d35 := Int64.not_lt.mpr c35
          refine lv_lload hx hb dX3_answersTo_44 (lv_at hl 0 rfl) ?_
          refine lv_lload_n hx hb dX3_answersTo_46 rfl (lv_at hl 3 rfl) ?_
          refine W.lcmp hx hb dX3_answersTo_47 ?_
          refine lv_if_ne (tgt := 60) hx hb dX3_answersTo_48 (by decide) (fun c48 => ?_) (fun c48 => ?_)
          · have c48 := mt (lg_cmp_eq _ _).mpr c48
            refine lv_iinc (v := nI (i + 1)) (lv' := [(5, .int (nI (i + 1))), (6, .long (wsum (I (b + 9)) (J (x + 1)) i 4)), (0, .ref b), (1, .ref x), (2, .long mo), (4, .int (nI be))]) hx hb dX3_answersTo_60 hl (k := 5) rfl (nI_inc _) (by decide) rfl (fun ls hl => ?_)
            refine lv_goto (tgt := 13) hx hb dX3_answersTo_63 (by decide) ?_
            exact ih13 (i + 1) mo be (by omega) (by omega) (by rw [Nat.add_sub_cancel, show i = (i - 1) + 1 from by omega, ansL, ← h1, show (i - 1) + 1 = i from by omega]; first | exact absurd rfl c48 | (unfold ansS; simp [d35, c48])) ls (lv_sub hl [2, 3, 4, 5, 0] rfl)
          · have c48 := (lg_cmp_eq _ _).mp c48
            refine lv_iload hx hb dX3_answersTo_51 (lv_at hl 4 rfl) ?_
            refine lv_iconst (v := nI 1) hx hb dX3_answersTo_53 (by decide) ?_
            refine lv_iload hx hb dX3_answersTo_54 (lv_at hl 5 rfl) ?_
            refine lv_ishl hx hb dX3_answersTo_56 ?_
            refine g_topi (y := nI (2 ^ i)) (g_shl (by omega)) ?_
            refine lv_ior hx hb dX3_answersTo_57 ?_
            refine g_topi (y := nI (be ||| (2 ^ i))) (g_or (by omega) (by omega)) ?_
            refine lv_istore (lv' := [(4, .int (nI (be ||| (2 ^ i)))), (6, .long (wsum (I (b + 9)) (J (x + 1)) i 4)), (0, .ref b), (1, .ref x), (2, .long mo), (5, .int (nI i))]) hx hb dX3_answersTo_58 hl (by decide) rfl (fun ls hl => ?_)
            refine lv_iinc (v := nI (i + 1)) (lv' := [(5, .int (nI (i + 1))), (4, .int (nI (be ||| (2 ^ i)))), (6, .long (wsum (I (b + 9)) (J (x + 1)) i 4)), (0, .ref b), (1, .ref x), (2, .long mo)]) hx hb dX3_answersTo_60 hl (k := 5) rfl (nI_inc _) (by decide) rfl (fun ls hl => ?_)
            refine lv_goto (tgt := 13) hx hb dX3_answersTo_63 (by decide) ?_
            exact ih13 (i + 1) mo (be ||| (2 ^ i)) (by omega) (by omega) (by rw [Nat.add_sub_cancel, show i = (i - 1) + 1 from by omega, ansL, ← h1, show (i - 1) + 1 = i from by omega]; first | exact absurd rfl c48 | (unfold ansS; simp [d35, c48])) ls (lv_sub hl [3, 4, 5, 1, 0] rfl)
        · have c35 := mt (lg_cmp_le _ _).mpr c35
          have d35 := Int64.not_le.mp c35
          refine lv_lload hx hb dX3_answersTo_38 (lv_at hl 0 rfl) ?_
          refine lv_lstore_n (lv' := [(2, .long (wsum (I (b + 9)) (J (x + 1)) i 4)), (6, .long (wsum (I (b + 9)) (J (x + 1)) i 4)), (0, .ref b), (1, .ref x), (4, .int (nI be)), (5, .int (nI i))]) hx hb dX3_answersTo_40 rfl hl (by decide) rfl (fun ls hl => ?_)
          refine lv_iconst (v := nI 0) hx hb dX3_answersTo_41 (by decide) ?_
          refine lv_istore (lv' := [(4, .int (nI 0)), (2, .long (wsum (I (b + 9)) (J (x + 1)) i 4)), (6, .long (wsum (I (b + 9)) (J (x + 1)) i 4)), (0, .ref b), (1, .ref x), (5, .int (nI i))]) hx hb dX3_answersTo_42 hl (by decide) rfl (fun ls hl => ?_)
          refine lv_lload hx hb dX3_answersTo_44 (lv_at hl 2 rfl) ?_
          refine lv_lload_n hx hb dX3_answersTo_46 rfl (lv_at hl 1 rfl) ?_
          refine W.lcmp hx hb dX3_answersTo_47 ?_
          refine lv_if_ne (tgt := 60) hx hb dX3_answersTo_48 (by decide) (fun c48 => ?_) (fun c48 => ?_)
          · have c48 := mt (lg_cmp_eq _ _).mpr c48
            refine lv_iinc (v := nI (i + 1)) (lv' := [(5, .int (nI (i + 1))), (4, .int (nI 0)), (2, .long (wsum (I (b + 9)) (J (x + 1)) i 4)), (6, .long (wsum (I (b + 9)) (J (x + 1)) i 4)), (0, .ref b), (1, .ref x)]) hx hb dX3_answersTo_60 hl (k := 5) rfl (nI_inc _) (by decide) rfl (fun ls hl => ?_)
            refine lv_goto (tgt := 13) hx hb dX3_answersTo_63 (by decide) ?_
            exact ih13 (i + 1) (wsum (I (b + 9)) (J (x + 1)) i 4) 0 (by omega) (by omega) (by rw [Nat.add_sub_cancel, show i = (i - 1) + 1 from by omega, ansL, ← h1, show (i - 1) + 1 = i from by omega]; first | exact absurd rfl c48 | (unfold ansS; simp [d35, c48])) ls (lv_sub hl [4, 5, 2, 1, 0] rfl)
          · have c48 := (lg_cmp_eq _ _).mp c48
            refine lv_iload hx hb dX3_answersTo_51 (lv_at hl 0 rfl) ?_
            refine lv_iconst (v := nI 1) hx hb dX3_answersTo_53 (by decide) ?_
            refine lv_iload hx hb dX3_answersTo_54 (lv_at hl 5 rfl) ?_
            refine lv_ishl hx hb dX3_answersTo_56 ?_
            refine g_topi (y := nI (2 ^ i)) (g_shl (by omega)) ?_
            refine lv_ior hx hb dX3_answersTo_57 ?_
            refine g_topi (y := nI (0 ||| (2 ^ i))) (g_or (by omega) (by omega)) ?_
            refine lv_istore (lv' := [(4, .int (nI (0 ||| (2 ^ i)))), (2, .long (wsum (I (b + 9)) (J (x + 1)) i 4)), (6, .long (wsum (I (b + 9)) (J (x + 1)) i 4)), (0, .ref b), (1, .ref x), (5, .int (nI i))]) hx hb dX3_answersTo_58 hl (by decide) rfl (fun ls hl => ?_)
            refine lv_iinc (v := nI (i + 1)) (lv' := [(5, .int (nI (i + 1))), (4, .int (nI (0 ||| (2 ^ i)))), (2, .long (wsum (I (b + 9)) (J (x + 1)) i 4)), (6, .long (wsum (I (b + 9)) (J (x + 1)) i 4)), (0, .ref b), (1, .ref x)]) hx hb dX3_answersTo_60 hl (k := 5) rfl (nI_inc _) (by decide) rfl (fun ls hl => ?_)
            refine lv_goto (tgt := 13) hx hb dX3_answersTo_63 (by decide) ?_
            exact ih13 (i + 1) (wsum (I (b + 9)) (J (x + 1)) i 4) (0 ||| (2 ^ i)) (by omega) (by omega) (by rw [Nat.add_sub_cancel, show i = (i - 1) + 1 from by omega, ansL, ← h1, show (i - 1) + 1 = i from by omega]; first | exact absurd rfl c48 | (unfold ansS; simp [d35, c48])) ls (lv_sub hl [4, 5, 2, 1, 0] rfl)
  exact L13 5 1 (wsum (I (b + 9)) (J (x + 1)) 0 4) 1 (by omega) (by omega) rfl ls (lv_sub hl [3, 4, 2, 1, 0] rfl)
set_option maxHeartbeats 4000000 in
set_option maxRecDepth 100000 in
theorem c_X3_paysMore (l : Launch) {G : gG} {T : gTy} {I : gI} {J : gJ} {Q : gR} {O : gO} {H : Heap} (hP : gP G T I J Q O H) {b ch a q B : Nat} (hpl : isPl T O b ch) (ha : a < 4) (hc : q < 4) (hB : B < 16) : Met l yX3_paysMore (gw yX3_paysMore cX3_paysMore 5 (some (.boolean))) ({ frames := 1, cells := 0, slots := 0, locals := 22 } : Room) (gPc G H [.ref b, .int (nI a), .int (nI q), .int (nI B)]) (gQp (some (.int (gb (pMore (I (b + 9)) a q B))))) 0 0 (fun _ => False) := by
  refine g_met [(0, .ref b), (1, .int (nI a)), (2, .int (nI q)), (3, .int (nI B))] (by decide) rfl (by exact Nat.le_of_ble_eq_true rfl) ?_
  intro p e s m below meth c hC hs ls hl
  have hx := hC.1.1
  have hb := hC.1.2.1
  have hpl_lo := hpl.2.2.2.2.2.2.2.2.1
  have hpl_hi := hpl.2.2.2.2.2.2.2.2.2
  refine lv_iconst (v := nI 0) hx hb dX3_paysMore_0 (by decide) ?_
  refine lv_istore (lv' := [(4, .int (nI 0)), (0, .ref b), (1, .int (nI a)), (2, .int (nI q)), (3, .int (nI B))]) hx hb dX3_paysMore_1 hl (by decide) rfl (fun ls hl => ?_)
  have L3 : ∀ (n3 : Nat) (i : Nat), 5 ≤ n3 + i → (i ≤ 4) → (∀ k, k < i → B.testBit k = true → I (b + 9) (q * 4 + k) < I (b + 9) (a * 4 + k)) → ∀ ls : Array Slot, lv_has ls 5 [(0, .ref b), (1, .int (nI a)), (2, .int (nI q)), (3, .int (nI B)), (4, .int (nI i))] → W p l e ({ frames := 1, cells := 0, slots := 0, locals := 22 } : Room) s m [.ref b, .int (nI a), .int (nI q), .int (nI B)].toArray below meth c H [] 0 0 (MQ below (gQp (some (.int (gb (pMore (I (b + 9)) a q B))))) [.ref b, .int (nI a), .int (nI q), .int (nI B)].toArray s 0 0 (fun _ => False)) (F0 m 3 ls []) := by
    intro n3
    induction n3 with
    | zero => intro i hn3 hi h1; exact absurd hn3 (by omega)
    | succ n3 ih3 =>
      intro i hn3 hi h1 ls hl
      refine lv_iload hx hb dX3_paysMore_3 (lv_at hl 4 rfl) ?_
      refine lv_iconst (v := nI 4) hx hb dX3_paysMore_5 (by decide) ?_
      refine lv_icmp_ge (tgt := 43) hx hb dX3_paysMore_6 (by decide) (fun c6 => ?_) (fun c6 => ?_)
      · have c6 := (nI_leI (by omega) (by omega)).mp c6
        refine lv_iconst (v := nI 1) hx hb dX3_paysMore_43 (by decide) ?_
        refine g_retz hC hs ?_ dX3_paysMore_44
        rw [show pMore (I (b + 9)) a q B = true from pMore_iff.mpr (fun k h hk => h1 k (by omega) hk)]; rfl
      · have c6 := mt (nI_leI (by omega) (by omega)).mpr c6
        refine lv_iload_n hx hb dX3_paysMore_9 rfl (lv_at hl 3 rfl) ?_
        refine lv_iload hx hb dX3_paysMore_10 (lv_at hl 4 rfl) ?_
        refine g_cp (g_rSN (As := [.int (nI B), .int (nI i)]) hC (c_X4_hasBit l (B := B) (k := i) (by first | assumption | omega) (by first | assumption | omega)) ⟨q2_11, List.mem_of_getElem? (i := 6) rfl, q2_10, q1_1⟩ dd_X4_hasBit ⟨Nat.le_of_ble_eq_true rfl, Nat.le_of_ble_eq_true rfl, rfl, rfl⟩ hl.1 rfl (Nat.le_of_ble_eq_true rfl) dX3_paysMore_12 ⟨Nat.le_of_ble_eq_true rfl, Nat.le_of_ble_eq_true rfl⟩) ?_
        refine W.eq (g2 := F0 m 15 ls [.int (gb (B.testBit i))]) rfl ?_
        refine lv_if_eq (tgt := 37) hx hb dX3_paysMore_15 (by decide) (fun c15 => ?_) (fun c15 => ?_)
        · have c15 := gb_f c15
          refine lv_iinc (v := nI (i + 1)) (lv' := [(4, .int (nI (i + 1))), (0, .ref b), (1, .int (nI a)), (2, .int (nI q)), (3, .int (nI B))]) hx hb dX3_paysMore_37 hl (k := 4) rfl (nI_inc _) (by decide) rfl (fun ls hl => ?_)
          refine lv_goto (tgt := 3) hx hb dX3_paysMore_40 (by decide) ?_
          exact ih3 (i + 1) (by omega) (by omega) (fun k h hk => by rcases Nat.lt_succ_iff_lt_or_eq.mp h with h | rfl <;> first | exact h1 k h hk | simp_all) ls (lv_sub hl [1, 2, 3, 4, 0] rfl)
        · have c15 := gb_t c15
          refine lv_aload_n hx hb dX3_paysMore_18 rfl (lv_at hl 0 rfl) ?_
          refine lv_iload_n hx hb dX3_paysMore_19 rfl (lv_at hl 1 rfl) ?_
          refine lv_iload hx hb dX3_paysMore_20 (lv_at hl 4 rfl) ?_
          refine g_cp (g_rV (As := [.int (nI a), .int (nI i)]) hC hP (c_X3_payFor l hP (b := b) (ch := ch) (i := a) (k := i) (by first | assumption | omega) (by first | assumption | omega) (by first | assumption | omega)) hpl.1 rfl ⟨q1_170, q1_216, q1_168, q1_169, q1_2⟩ dd_X3_payFor ⟨Nat.le_of_ble_eq_true rfl, Nat.le_of_ble_eq_true rfl, rfl, rfl⟩ hl.1 rfl (Nat.le_of_ble_eq_true rfl) dX3_paysMore_22 ⟨Nat.le_of_ble_eq_true rfl, Nat.le_of_ble_eq_true rfl⟩) ?_
          refine W.eq (g2 := F0 m 25 ls [.int (I (b + 9) (a * 4 + i))]) rfl ?_
          refine lv_aload_n hx hb dX3_paysMore_25 rfl (lv_at hl 0 rfl) ?_
          refine lv_iload_n hx hb dX3_paysMore_26 rfl (lv_at hl 2 rfl) ?_
          refine lv_iload hx hb dX3_paysMore_27 (lv_at hl 4 rfl) ?_
          refine g_cp (g_rV (As := [.int (nI q), .int (nI i)]) hC hP (c_X3_payFor l hP (b := b) (ch := ch) (i := q) (k := i) (by first | assumption | omega) (by first | assumption | omega) (by first | assumption | omega)) hpl.1 rfl ⟨q1_170, q1_216, q1_168, q1_169, q1_2⟩ dd_X3_payFor ⟨Nat.le_of_ble_eq_true rfl, Nat.le_of_ble_eq_true rfl, rfl, rfl⟩ hl.1 rfl (Nat.le_of_ble_eq_true rfl) dX3_paysMore_29 ⟨Nat.le_of_ble_eq_true rfl, Nat.le_of_ble_eq_true rfl⟩) ?_
          refine W.eq (g2 := F0 m 32 ls [.int (I (b + 9) (q * 4 + i)), .int (I (b + 9) (a * 4 + i))]) rfl ?_
          refine lv_icmp_gt (tgt := 37) hx hb dX3_paysMore_32 (by decide) (fun c32 => ?_) (fun c32 => ?_)
          · refine lv_iinc (v := nI (i + 1)) (lv' := [(4, .int (nI (i + 1))), (0, .ref b), (1, .int (nI a)), (2, .int (nI q)), (3, .int (nI B))]) hx hb dX3_paysMore_37 hl (k := 4) rfl (nI_inc _) (by decide) rfl (fun ls hl => ?_)
            refine lv_goto (tgt := 3) hx hb dX3_paysMore_40 (by decide) ?_
            exact ih3 (i + 1) (by omega) (by omega) (fun k h hk => by rcases Nat.lt_succ_iff_lt_or_eq.mp h with h | rfl <;> first | exact h1 k h hk | simp_all) ls (lv_sub hl [1, 2, 3, 4, 0] rfl)
          · refine lv_iconst (v := nI 0) hx hb dX3_paysMore_35 (by decide) ?_
            refine g_retz hC hs ?_ dX3_paysMore_36
            rw [show pMore (I (b + 9)) a q B = false from by rw [Bool.eq_false_iff]; intro h; exact c32 (pMore_iff.mp h i (by omega) c15)]; rfl
  exact L3 5 0 (by omega) (by omega) (fun k h => absurd h (by omega)) ls (lv_sub hl [1, 2, 3, 4, 0] rfl)
set_option maxHeartbeats 4000000 in
set_option maxRecDepth 100000 in
theorem c_X3_firstBetter (l : Launch) {G : gG} {T : gTy} {I : gI} {J : gJ} {Q : gR} {O : gO} {H : Heap} (hP : gP G T I J Q O H) {b ch q A B : Nat} (hpl : isPl T O b ch) (hc : q < 4) (hA : A < 16) (hB : B < 16) : Met l yX3_firstBetter (gw yX3_firstBetter cX3_firstBetter 5 (some (.int))) ({ frames := 2, cells := 0, slots := 0, locals := 46 } : Room) (gPc G H [.ref b, .int (nI q), .int (nI A), .int (nI B)]) (gQp (some (.int (oI (fBet (I (b + 9)) q A B))))) 0 0 (fun _ => False) := by
  refine g_met [(0, .ref b), (1, .int (nI q)), (2, .int (nI A)), (3, .int (nI B))] (by decide) rfl (by exact Nat.le_of_ble_eq_true rfl) ?_
  intro p e s m below meth c hC hs ls hl
  have hx := hC.1.1
  have hb := hC.1.2.1
  have hpl_lo := hpl.2.2.2.2.2.2.2.2.1
  have hpl_hi := hpl.2.2.2.2.2.2.2.2.2
  refine lv_iconst (v := nI 0) hx hb dX3_firstBetter_0 (by decide) ?_
  refine lv_istore (lv' := [(4, .int (nI 0)), (0, .ref b), (1, .int (nI q)), (2, .int (nI A)), (3, .int (nI B))]) hx hb dX3_firstBetter_1 hl (by decide) rfl (fun ls hl => ?_)
  have L3 : ∀ (n3 : Nat) (i : Nat), 5 ≤ n3 + i → (i ≤ 4) → (∀ k, k < i → (A.testBit k && pMore (I (b + 9)) k q B) = false) → ∀ ls : Array Slot, lv_has ls 5 [(0, .ref b), (1, .int (nI q)), (2, .int (nI A)), (3, .int (nI B)), (4, .int (nI i))] → W p l e ({ frames := 2, cells := 0, slots := 0, locals := 46 } : Room) s m [.ref b, .int (nI q), .int (nI A), .int (nI B)].toArray below meth c H [] 0 0 (MQ below (gQp (some (.int (oI (fBet (I (b + 9)) q A B))))) [.ref b, .int (nI q), .int (nI A), .int (nI B)].toArray s 0 0 (fun _ => False)) (F0 m 3 ls []) := by
    intro n3
    induction n3 with
    | zero => intro i hn3 hi h1; exact absurd hn3 (by omega)
    | succ n3 ih3 =>
      intro i hn3 hi h1 ls hl
      refine lv_iload hx hb dX3_firstBetter_3 (lv_at hl 4 rfl) ?_
      refine lv_iconst (v := nI 4) hx hb dX3_firstBetter_5 (by decide) ?_
      refine lv_icmp_ge (tgt := 38) hx hb dX3_firstBetter_6 (by decide) (fun c6 => ?_) (fun c6 => ?_)
      · have c6 := (nI_leI (by omega) (by omega)).mp c6
        refine lv_bipush (v := (-9)) hx hb dX3_firstBetter_38 (by decide) ?_
        refine g_reti hC hs ?_ dX3_firstBetter_40
        unfold fBet; rw [fst4_none (fun k h => h1 k (by omega))]; rfl
      · have c6 := mt (nI_leI (by omega) (by omega)).mpr c6
        refine lv_iload_n hx hb dX3_firstBetter_9 rfl (lv_at hl 2 rfl) ?_
        refine lv_iload hx hb dX3_firstBetter_10 (lv_at hl 4 rfl) ?_
        refine g_cp (g_rSN (As := [.int (nI A), .int (nI i)]) hC (c_X4_hasBit l (B := A) (k := i) (by first | assumption | omega) (by first | assumption | omega)) ⟨q2_11, List.mem_of_getElem? (i := 6) rfl, q2_10, q1_1⟩ dd_X4_hasBit ⟨Nat.le_of_ble_eq_true rfl, Nat.le_of_ble_eq_true rfl, rfl, rfl⟩ hl.1 rfl (Nat.le_of_ble_eq_true rfl) dX3_firstBetter_12 ⟨Nat.le_of_ble_eq_true rfl, Nat.le_of_ble_eq_true rfl⟩) ?_
        refine W.eq (g2 := F0 m 15 ls [.int (gb (A.testBit i))]) rfl ?_
        refine lv_if_eq (tgt := 32) hx hb dX3_firstBetter_15 (by decide) (fun c15 => ?_) (fun c15 => ?_)
        · have c15 := gb_f c15
          refine lv_iinc (v := nI (i + 1)) (lv' := [(4, .int (nI (i + 1))), (0, .ref b), (1, .int (nI q)), (2, .int (nI A)), (3, .int (nI B))]) hx hb dX3_firstBetter_32 hl (k := 4) rfl (nI_inc _) (by decide) rfl (fun ls hl => ?_)
          refine lv_goto (tgt := 3) hx hb dX3_firstBetter_35 (by decide) ?_
          exact ih3 (i + 1) (by omega) (by omega) (fun k h => by rcases Nat.lt_succ_iff_lt_or_eq.mp h with h | rfl <;> first | exact h1 k h | simp_all) ls (lv_sub hl [1, 2, 3, 4, 0] rfl)
        · have c15 := gb_t c15
          refine lv_aload_n hx hb dX3_firstBetter_18 rfl (lv_at hl 0 rfl) ?_
          refine lv_iload hx hb dX3_firstBetter_19 (lv_at hl 4 rfl) ?_
          refine lv_iload_n hx hb dX3_firstBetter_21 rfl (lv_at hl 1 rfl) ?_
          refine lv_iload_n hx hb dX3_firstBetter_22 rfl (lv_at hl 3 rfl) ?_
          refine g_cp (g_rV (As := [.int (nI i), .int (nI q), .int (nI B)]) hC hP (c_X3_paysMore l hP (b := b) (ch := ch) (a := i) (q := q) (B := B) (by first | assumption | omega) (by first | assumption | omega) (by first | assumption | omega) (by first | assumption | omega)) hpl.1 rfl ⟨q2_28, q2_25, q2_27, qs_7, q1_2⟩ dd_X3_paysMore ⟨Nat.le_of_ble_eq_true rfl, Nat.le_of_ble_eq_true rfl, rfl, rfl⟩ hl.1 rfl (Nat.le_of_ble_eq_true rfl) dX3_firstBetter_23 ⟨Nat.le_of_ble_eq_true rfl, Nat.le_of_ble_eq_true rfl⟩) ?_
          refine W.eq (g2 := F0 m 26 ls [.int (gb (pMore (I (b + 9)) i q B))]) rfl ?_
          refine lv_if_eq (tgt := 32) hx hb dX3_firstBetter_26 (by decide) (fun c26 => ?_) (fun c26 => ?_)
          · have c26 := gb_f c26
            refine lv_iinc (v := nI (i + 1)) (lv' := [(4, .int (nI (i + 1))), (0, .ref b), (1, .int (nI q)), (2, .int (nI A)), (3, .int (nI B))]) hx hb dX3_firstBetter_32 hl (k := 4) rfl (nI_inc _) (by decide) rfl (fun ls hl => ?_)
            refine lv_goto (tgt := 3) hx hb dX3_firstBetter_35 (by decide) ?_
            exact ih3 (i + 1) (by omega) (by omega) (fun k h => by rcases Nat.lt_succ_iff_lt_or_eq.mp h with h | rfl <;> first | exact h1 k h | simp_all) ls (lv_sub hl [1, 2, 3, 4, 0] rfl)
          · have c26 := gb_t c26
            refine lv_iload hx hb dX3_firstBetter_29 (lv_at hl 4 rfl) ?_
            refine g_reti hC hs ?_ dX3_firstBetter_31
            unfold fBet; rw [fst4_some (i := i) (by omega) (by simp_all) h1]; rfl
  exact L3 5 0 (by omega) (by omega) (fun k h => absurd h (by omega)) ls (lv_sub hl [1, 2, 3, 4, 0] rfl)
set_option maxHeartbeats 4000000 in
set_option maxRecDepth 100000 in
theorem c_X3_notWorse (l : Launch) {G : gG} {T : gTy} {I : gI} {J : gJ} {Q : gR} {O : gO} {H : Heap} (hP : gP G T I J Q O H) {b ch A B : Nat} (hpl : isPl T O b ch) (hA : A < 16) (hB : B < 16) : Met l yX3_notWorse (gw yX3_notWorse cX3_notWorse 5 (some (.int))) ({ frames := 3, cells := 0, slots := 0, locals := 70 } : Room) (gPc G H [.ref b, .int (nI A), .int (nI B)]) (gQp (some (.int (nI (nWor (I (b + 9)) A B))))) 0 0 (fun _ => False) := by
  refine g_met [(0, .ref b), (1, .int (nI A)), (2, .int (nI B))] (by decide) rfl (by exact Nat.le_of_ble_eq_true rfl) ?_
  intro p e s m below meth c hC hs ls hl
  have hx := hC.1.1
  have hb := hC.1.2.1
  have hpl_lo := hpl.2.2.2.2.2.2.2.2.1
  have hpl_hi := hpl.2.2.2.2.2.2.2.2.2
  refine lv_iconst (v := nI 0) hx hb dX3_notWorse_0 (by decide) ?_
  refine lv_istore_n (lv' := [(3, .int (nI 0)), (0, .ref b), (1, .int (nI A)), (2, .int (nI B))]) hx hb dX3_notWorse_1 rfl hl (by decide) rfl (fun ls hl => ?_)
  refine lv_iconst (v := nI 0) hx hb dX3_notWorse_2 (by decide) ?_
  refine lv_istore (lv' := [(4, .int (nI 0)), (3, .int (nI 0)), (0, .ref b), (1, .int (nI A)), (2, .int (nI B))]) hx hb dX3_notWorse_3 hl (by decide) rfl (fun ls hl => ?_)
  have L5 : ∀ (n5 : Nat) (i : Nat) (ke : Nat), 5 ≤ n5 + i → (i ≤ 4) → (ke = msk (fun c => A.testBit c && (fBet (I (b + 9)) c A B).isNone) i) → ∀ ls : Array Slot, lv_has ls 5 [(0, .ref b), (1, .int (nI A)), (2, .int (nI B)), (3, .int (nI ke)), (4, .int (nI i))] → W p l e ({ frames := 3, cells := 0, slots := 0, locals := 70 } : Room) s m [.ref b, .int (nI A), .int (nI B)].toArray below meth c H [] 0 0 (MQ below (gQp (some (.int (nI (nWor (I (b + 9)) A B))))) [.ref b, .int (nI A), .int (nI B)].toArray s 0 0 (fun _ => False)) (F0 m 5 ls []) := by
    intro n5
    induction n5 with
    | zero => intro i ke hn5 hi h1; exact absurd hn5 (by omega)
    | succ n5 ih5 =>
      intro i ke hn5 hi h1 ls hl
      have hke : ke < 16 := by rw [h1]; exact msk_lt16 _ hi
      refine lv_iload hx hb dX3_notWorse_5 (lv_at hl 4 rfl) ?_
      refine lv_iconst (v := nI 4) hx hb dX3_notWorse_7 (by decide) ?_
      refine lv_icmp_ge (tgt := 46) hx hb dX3_notWorse_8 (by decide) (fun c8 => ?_) (fun c8 => ?_)
      · have c8 := (nI_leI (by omega) (by omega)).mp c8
        refine lv_iload_n hx hb dX3_notWorse_46 rfl (lv_at hl 3 rfl) ?_
        refine g_reti hC hs ?_ dX3_notWorse_47
        rw [h1, show i = 4 from by omega]; rfl
      · have c8 := mt (nI_leI (by omega) (by omega)).mpr c8
        have hp2 := pow_lt16 (k := i) (by omega)
        refine lv_iload_n hx hb dX3_notWorse_11 rfl (lv_at hl 1 rfl) ?_
        refine lv_iload hx hb dX3_notWorse_12 (lv_at hl 4 rfl) ?_
        refine g_cp (g_rSN (As := [.int (nI A), .int (nI i)]) hC (c_X4_hasBit l (B := A) (k := i) (by first | assumption | omega) (by first | assumption | omega)) ⟨q2_11, List.mem_of_getElem? (i := 6) rfl, q2_10, q1_1⟩ dd_X4_hasBit ⟨Nat.le_of_ble_eq_true rfl, Nat.le_of_ble_eq_true rfl, rfl, rfl⟩ hl.1 rfl (Nat.le_of_ble_eq_true rfl) dX3_notWorse_14 ⟨Nat.le_of_ble_eq_true rfl, Nat.le_of_ble_eq_true rfl⟩) ?_
        refine W.eq (g2 := F0 m 17 ls [.int (gb (A.testBit i))]) rfl ?_
        refine lv_if_eq (tgt := 40) hx hb dX3_notWorse_17 (by decide) (fun c17 => ?_) (fun c17 => ?_)
        · have c17 := gb_f c17
          refine lv_iinc (v := nI (i + 1)) (lv' := [(4, .int (nI (i + 1))), (0, .ref b), (1, .int (nI A)), (2, .int (nI B)), (3, .int (nI ke))]) hx hb dX3_notWorse_40 hl (k := 4) rfl (nI_inc _) (by decide) rfl (fun ls hl => ?_)
          refine lv_goto (tgt := 5) hx hb dX3_notWorse_43 (by decide) ?_
          exact ih5 (i + 1) ke (by omega) (by omega) (by rw [h1, msk]; simp_all) ls (lv_sub hl [1, 2, 3, 4, 0] rfl)
        · have c17 := gb_t c17
          refine lv_aload_n hx hb dX3_notWorse_20 rfl (lv_at hl 0 rfl) ?_
          refine lv_iload hx hb dX3_notWorse_21 (lv_at hl 4 rfl) ?_
          refine lv_iload_n hx hb dX3_notWorse_23 rfl (lv_at hl 1 rfl) ?_
          refine lv_iload_n hx hb dX3_notWorse_24 rfl (lv_at hl 2 rfl) ?_
          refine g_cp (g_rV (As := [.int (nI i), .int (nI A), .int (nI B)]) hC hP (c_X3_firstBetter l hP (b := b) (ch := ch) (q := i) (A := A) (B := B) (by first | assumption | omega) (by first | assumption | omega) (by first | assumption | omega) (by first | assumption | omega)) hpl.1 rfl ⟨q2_23, q2_42, q2_21, q2_22, q1_2⟩ dd_X3_firstBetter ⟨Nat.le_of_ble_eq_true rfl, Nat.le_of_ble_eq_true rfl, rfl, rfl⟩ hl.1 rfl (Nat.le_of_ble_eq_true rfl) dX3_notWorse_25 ⟨Nat.le_of_ble_eq_true rfl, Nat.le_of_ble_eq_true rfl⟩) ?_
          refine W.eq (g2 := F0 m 28 ls [.int (oI (fBet (I (b + 9)) i A B))]) rfl ?_
          refine lv_bipush (v := (-9)) hx hb dX3_notWorse_28 (by decide) ?_
          refine lv_icmp_ne (tgt := 40) hx hb dX3_notWorse_30 (by decide) (fun c30 => ?_) (fun c30 => ?_)
          · have c30 : ¬ fBet (I (b + 9)) i A B = none := mt (oI_none (fun k h => Nat.lt_trans (fst4_lt h).1 (by decide))).mpr c30
            refine lv_iinc (v := nI (i + 1)) (lv' := [(4, .int (nI (i + 1))), (0, .ref b), (1, .int (nI A)), (2, .int (nI B)), (3, .int (nI ke))]) hx hb dX3_notWorse_40 hl (k := 4) rfl (nI_inc _) (by decide) rfl (fun ls hl => ?_)
            refine lv_goto (tgt := 5) hx hb dX3_notWorse_43 (by decide) ?_
            exact ih5 (i + 1) ke (by omega) (by omega) (by rw [h1, msk]; simp_all) ls (lv_sub hl [1, 2, 3, 4, 0] rfl)
          · have c30 : fBet (I (b + 9)) i A B = none := (oI_none (fun k h => Nat.lt_trans (fst4_lt h).1 (by decide))).mp c30
            refine lv_iload_n hx hb dX3_notWorse_33 rfl (lv_at hl 3 rfl) ?_
            refine lv_iconst (v := nI 1) hx hb dX3_notWorse_34 (by decide) ?_
            refine lv_iload hx hb dX3_notWorse_35 (lv_at hl 4 rfl) ?_
            refine lv_ishl hx hb dX3_notWorse_37 ?_
            refine g_topi (y := nI (2 ^ i)) (g_shl (by omega)) ?_
            refine lv_ior hx hb dX3_notWorse_38 ?_
            refine g_topi (y := nI (ke ||| (2 ^ i))) (g_or (by omega) (by omega)) ?_
            refine lv_istore_n (lv' := [(3, .int (nI (ke ||| (2 ^ i)))), (0, .ref b), (1, .int (nI A)), (2, .int (nI B)), (4, .int (nI i))]) hx hb dX3_notWorse_39 rfl hl (by decide) rfl (fun ls hl => ?_)
            refine lv_iinc (v := nI (i + 1)) (lv' := [(4, .int (nI (i + 1))), (3, .int (nI (ke ||| (2 ^ i)))), (0, .ref b), (1, .int (nI A)), (2, .int (nI B))]) hx hb dX3_notWorse_40 hl (k := 4) rfl (nI_inc _) (by decide) rfl (fun ls hl => ?_)
            refine lv_goto (tgt := 5) hx hb dX3_notWorse_43 (by decide) ?_
            exact ih5 (i + 1) (ke ||| (2 ^ i)) (by omega) (by omega) (by rw [h1, msk]; simp_all) ls (lv_sub hl [2, 3, 4, 1, 0] rfl)
  exact L5 5 0 0 (by omega) (by omega) rfl ls (lv_sub hl [2, 3, 4, 1, 0] rfl)
