/-! ===== lists of corners as the reference builds them ===== -/
theorem ins_all {Φ : MixV → Prop} {v : MixV} {c : CL} (hv : Φ v) (hc : ∀ j, j < c.1 → Φ (c.2 j)) : ∀ j, j < (insC v c).1 → Φ ((insC v c).2 j) := by
  unfold insC
  split
  · exact hc
  · intro j hj
    have hj' : j < c.1 + 1 := hj
    show Φ (if j < insP v c then c.2 j else if j = insP v c then v else c.2 (j - 1))
    have hp : insP v c ≤ c.1 := by
      unfold insP
      cases e : fstN (fun j => decide (ordV v (c.2 j) < 0)) c.1 with
      | none => exact Nat.le_refl _
      | some k => exact Nat.le_of_lt (fstN_lt e).1
    split
    · exact hc j (by omega)
    · split
      · exact hv
      · exact hc (j - 1) (by omega)
theorem ins_srt {v : MixV} {c : CL} (hv : vG v) (hc : cG c) (hs : srt c) : srt (insC v c) := by
  have np : ∀ j, ¬ 0 < ordV v (c.2 j) → ¬ ordV v (c.2 j) = 0 → ordV v (c.2 j) < 0 := fun j h1 h2 => by
    rcases ordV_3 (v := v) (w := c.2 j) with e | e | e <;> rw [e] at h1 h2 ⊢ <;> revert h1 h2 <;> decide
  cases e : fstN (fun j => !decide (0 < ordV v (c.2 j))) c.1 with
  | none =>
    refine (ins_new (a := c.1) hv hc hs (Nat.le_refl _) (fun j hj => ?_) (fun q => absurd q (Nat.lt_irrefl _))).2
    have := List.find?_eq_none.mp e j (List.mem_range.mpr hj)
    simpa using this
  | some a =>
    unfold fstN at e
    obtain ⟨h1, h2, h3⟩ := List.find?_range_eq_some.mp e
    have ha := List.mem_range.mp h2
    have h1 : ¬ 0 < ordV v (c.2 a) := by simpa using h1
    by_cases z : ordV v (c.2 a) = 0
    · rw [insC_dup ha z]; exact hs
    · exact (ins_new hv hc hs (Nat.le_of_lt ha) (fun j hj => by simpa using h3 j hj) (fun _ => np a h1 z)).2
def vC (P : Nat → Int32) (ch u t : Nat) : MixV := (candY P u t, tsum (candY P u t) 4, usedB (candY P u t) 4, ansB P (candY P u t) ch)
theorem tb_ext {a b : Nat} (ha : a < 16) (hb : b < 16) (h : ∀ j, j < 4 → a.testBit j = b.testBit j) : a = b := by
  apply Nat.eq_of_testBit_eq
  intro j
  by_cases hj : j < 4
  · exact h j hj
  · have e1 : a.testBit j = false := Bool.eq_false_iff.mpr (fun q => hj (tb_lt (m := 4) ha q))
    have e2 : b.testBit j = false := Bool.eq_false_iff.mpr (fun q => hj (tb_lt (m := 4) hb q))
    rw [e1, e2]
theorem sum4_I {X : Nat → Int64} (h : ∀ j, j < 4 → 0 ≤ (X j).toInt ∧ (X j).toInt ≤ 384000) : (alS X).toInt = (X 0).toInt + (X 1).toInt + (X 2).toInt + (X 3).toInt ∧ (tsum X 4).toInt = (X 0).toInt + (X 1).toInt + (X 2).toInt + (X 3).toInt := by
  have a := h 0 (by decide)
  have b := h 1 (by decide)
  have c := h 2 (by decide)
  have d := h 3 (by decide)
  have e1 : (X 0 + X 1).toInt = (X 0).toInt + (X 1).toInt := by rw [Int64.toInt_add, bm64 (by omega) (by omega)]
  have e2 : (X 0 + X 1 + X 2).toInt = (X 0).toInt + (X 1).toInt + (X 2).toInt := by rw [Int64.toInt_add, e1, bm64 (by omega) (by omega)]
  have e3 : (X 0 + X 1 + X 2 + X 3).toInt = (X 0).toInt + (X 1).toInt + (X 2).toInt + (X 3).toInt := by rw [Int64.toInt_add, e2, bm64 (by omega) (by omega)]
  refine ⟨e3, ?_⟩
  show (0 + X 0 + X 1 + X 2 + X 3).toInt = _
  rw [Int64.zero_add]
  exact e3
theorem cand_vG {P : Nat → Int32} {ch u t : Nat} (hu : u < 16) (h1 : 1 ≤ u) (hb : bdP P) (h : posOK (candX P u t) u = true) : vG (vC P ch u t) := by
  obtain ⟨-, -, c3, c4, -⟩ := (cand_good (t := t) hu h1 hb).2 h
  have hp := popc_1 hu h1
  have s := (sum4_I c3).2
  refine ⟨c3, s, ?_⟩
  show 0 < (tsum (candY P u t) 4).toInt
  rw [s]
  have n1 := nth_lt u 0
  have q := c4 (nth u 0) n1 (nth_ok hu (by omega)).1
  have a := c3 0 (by decide)
  have b := c3 1 (by decide)
  have c := c3 2 (by decide)
  have d := c3 3 (by decide)
  generalize nth u 0 = k at *
  rcases (show k = 0 ∨ k = 1 ∨ k = 2 ∨ k = 3 by omega) with rfl | rfl | rfl | rfl <;> omega
theorem used_cand {P : Nat → Int32} {u t : Nat} (hu : u < 16) (h1 : 1 ≤ u) (hb : bdP P) (h : posOK (candX P u t) u = true) : usedB (candY P u t) 4 = u := by
  obtain ⟨-, -, c3, c4, c5⟩ := (cand_good (t := t) hu h1 hb).2 h
  refine tb_ext (msk_lt16 _ (Nat.le_refl 4)) hu (fun j hj => ?_)
  rw [used_tb hj]
  cases e : u.testBit j
  · rw [c5 j e]; rfl
  · exact decide_eq_true (lt0_I.1.mpr (c4 j hj e))
theorem red_b {Y S : Nat → Int64} {D : Int} (hD : 0 < D) (hY : ∀ j, j < 4 → 0 ≤ (Y j).toInt ∧ (Y j).toInt ≤ 384000) (h : ∀ j, j < 4 → (Y j).toInt = D * (S j).toInt) : ∀ j, j < 4 → 0 ≤ (S j).toInt ∧ (S j).toInt ≤ 384000 := fun j hj => by
  have b := hY j hj
  have e := h j hj
  have a : 0 ≤ (S j).toInt := by
    rcases Int.lt_or_le (S j).toInt 0 with c | c
    · have := Int.mul_neg_of_pos_of_neg hD c
      omega
    · exact c
  have q := Int.mul_le_mul_of_nonneg_right (show 1 ≤ D by omega) a
  omega
theorem rd_cand {P : Nat → Int32} {ch u t : Nat} {S : Nat → Int64} {D : Int} (hu : u < 16) (h1 : 1 ≤ u) (hb : bdP P) (h : posOK (candX P u t) u = true) (hD : 0 < D) (hS : ∀ j, j < 4 → (candY P u t j).toInt = D * (S j).toInt) : rdV (vC P ch u t) S (alS S) := by
  obtain ⟨-, -, c3, -, -⟩ := (cand_good (t := t) hu h1 hb).2 h
  refine ⟨D, hD, hS, ?_⟩
  show (tsum (candY P u t) 4).toInt = _
  rw [(sum4_I c3).2, (sum4_I (red_b hD c3 hS)).1, hS 0 (by decide), hS 1 (by decide), hS 2 (by decide), hS 3 (by decide), Int.mul_add, Int.mul_add, Int.mul_add]
/-! answers don't change with scale -/
def wI (P : Nat → Int32) (X : Nat → Int64) (o : Nat) : Nat → Int
  | 0 => 0
  | k + 1 => wI P X o k + (X k).toInt * (P (o * 4 + k)).toInt
theorem wsum_I {P : Nat → Int32} {X : Nat → Int64} {o : Nat} (hb : bdP P) (ho : o < 4) (hX : ∀ j, j < 4 → 0 ≤ (X j).toInt ∧ (X j).toInt ≤ 384000) : ∀ k, k ≤ 4 → (wsum P X o k).toInt = wI P X o k ∧ -(7680000 * (k : Int)) ≤ wI P X o k ∧ wI P X o k ≤ 7680000 * (k : Int)
  | 0, _ => ⟨i64_20.2.2, by show -(7680000 * ((0 : Nat) : Int)) ≤ 0; decide, by show 0 ≤ 7680000 * ((0 : Nat) : Int); decide⟩
  | k + 1, h => by
    obtain ⟨a, b, c⟩ := wsum_I hb ho hX k (by omega)
    have x := hX k (by omega)
    have p := bd_int (hb (o * 4 + k) (by omega))
    have q := pr_b x.1 x.2 p
    have e : (X k * (P (o * 4 + k)).toInt64).toInt = (X k).toInt * (P (o * 4 + k)).toInt := by
      rw [mul_I, Int32.toInt_toInt64] <;> rw [Int32.toInt_toInt64] <;> omega
    refine ⟨?_, ?_, ?_⟩
    · show (wsum P X o k + X k * (P (o * 4 + k)).toInt64).toInt = wI P X o k + _
      rw [Int64.toInt_add, a, e, bm64 (by omega) (by omega)]
    · show _ ≤ wI P X o k + _
      omega
    · show wI P X o k + _ ≤ _
      omega
theorem wI_sc {P : Nat → Int32} {X Y : Nat → Int64} {o : Nat} {D E : Int} (h : ∀ j, j < 4 → D * (X j).toInt = E * (Y j).toInt) : ∀ k, k ≤ 4 → D * wI P X o k = E * wI P Y o k
  | 0, _ => by show D * 0 = E * 0; rw [Int.mul_zero, Int.mul_zero]
  | k + 1, hk => by
    show D * (wI P X o k + (X k).toInt * _) = E * (wI P Y o k + (Y k).toInt * _)
    rw [Int.mul_add, Int.mul_add, wI_sc h k (by omega), ← Int.mul_assoc, ← Int.mul_assoc, h k (by omega)]
theorem sc_cmp {D E x y x' y' : Int} (hD : 0 < D) (hE : 0 < E) (h : D * x = E * x') (h2 : D * y = E * y') : (x < y ↔ x' < y') ∧ (x = y ↔ x' = y') := by
  constructor
  · constructor
    · intro q
      have a := Int.mul_lt_mul_of_pos_left q hD
      rw [h, h2] at a
      exact Int.lt_of_mul_lt_mul_left a (by omega)
    · intro q
      have a := Int.mul_lt_mul_of_pos_left q hE
      rw [← h, ← h2] at a
      exact Int.lt_of_mul_lt_mul_left a (by omega)
  · constructor
    · intro q
      rw [q, h2] at h
      exact (Int.eq_of_mul_eq_mul_left (by omega) h).symm
    · intro q
      rw [← q, ← h] at h2
      exact (Int.eq_of_mul_eq_mul_left (by omega) h2).symm
theorem ansL_sc {f g : Nat → Int64} {D E : Int} (hD : 0 < D) (hE : 0 < E) : ∀ k, (∀ o, o ≤ k → D * (f o).toInt = E * (g o).toInt) → (ansL f k).2 = (ansL g k).2 ∧ D * (ansL f k).1.toInt = E * (ansL g k).1.toInt
  | 0, h => ⟨rfl, h 0 (Nat.le_refl 0)⟩
  | k + 1, h => by
    obtain ⟨a, b⟩ := ansL_sc hD hE k (fun o ho => h o (by omega))
    have c := h (k + 1) (Nat.le_refl _)
    have m1 := sc_cmp hD hE b c
    have m2 := sc_cmp hD hE c b
    show (ansS (f (k + 1)) (ansL f k).1 (ansL f k).2 (k + 1)).2 = (ansS (g (k + 1)) (ansL g k).1 (ansL g k).2 (k + 1)).2 ∧ D * (ansS (f (k + 1)) (ansL f k).1 (ansL f k).2 (k + 1)).1.toInt = E * (ansS (g (k + 1)) (ansL g k).1 (ansL g k).2 (k + 1)).1.toInt
    unfold ansS
    have n1 : (ansL f k).1 < f (k + 1) ↔ (ansL g k).1 < g (k + 1) := by rw [Int64.lt_iff_toInt_lt, Int64.lt_iff_toInt_lt]; exact m1.1
    have n2 : f (k + 1) = (ansL f k).1 ↔ g (k + 1) = (ansL g k).1 := by rw [← Int64.toInt_inj, ← Int64.toInt_inj]; exact m2.2
    by_cases q : (ansL f k).1 < f (k + 1)
    · rw [if_pos q, if_pos (n1.mp q)]
      exact ⟨rfl, c⟩
    · rw [if_neg q, if_neg (mt n1.mpr q)]
      by_cases r : f (k + 1) = (ansL f k).1
      · rw [if_pos r, if_pos (n2.mp r), a]
        exact ⟨rfl, b⟩
      · rw [if_neg r, if_neg (mt n2.mpr r)]
        exact ⟨a, b⟩
theorem ansB_sc {P : Nat → Int32} {X Y : Nat → Int64} {ch : Nat} {D E : Int} (hb : bdP P) (hc : ch ≤ 4) (hD : 0 < D) (hE : 0 < E) (hX : ∀ j, j < 4 → 0 ≤ (X j).toInt ∧ (X j).toInt ≤ 384000) (hY : ∀ j, j < 4 → 0 ≤ (Y j).toInt ∧ (Y j).toInt ≤ 384000) (h : ∀ j, j < 4 → D * (X j).toInt = E * (Y j).toInt) : ansB P X ch = ansB P Y ch := by
  rcases Nat.eq_zero_or_pos ch with e | e
  · subst e; rfl
  · refine (ansL_sc hD hE (ch - 1) (fun o ho => ?_)).1
    rw [(wsum_I hb (by omega) hX 4 (Nat.le_refl 4)).1, (wsum_I hb (by omega) hY 4 (Nat.le_refl 4)).1]
    exact wI_sc h 4 (Nat.le_refl 4)
theorem ans_red {P : Nat → Int32} {S : Nat → Int64} {u t ch m : Nat} {D : Int} (hb : bdP P) (hu : u < 2 ^ m) (hm : m ≤ 4) (h1 : 1 ≤ u) (hc : 1 ≤ ch ∧ ch ≤ 4) (h : posOK (candX P u t) u = true) (hD : 0 < D) (hS : ∀ j, j < 4 → (candY P u t j).toInt = D * (S j).toInt) : ansM P S ch m = ansB P (candY P u t) ch := by
  have q : ∀ m, m ≤ 4 → 2 ^ m ≤ 16 := by decide
  have hu16 : u < 16 := Nat.lt_of_lt_of_le hu (q m hm)
  obtain ⟨-, -, c3, -, c5⟩ := (cand_good (t := t) hu16 h1 hb).2 h
  rw [ansM_B hc.1 hm (fun j h1 h2 => ?_)]
  · exact ansB_sc (D := D) (E := 1) hb hc.2 hD (by decide) (red_b hD c3 hS) c3 (fun j hj => by rw [← hS j hj, Int.one_mul])
  · have z := c5 j (Bool.eq_false_iff.mpr (fun q => by have := tb_lt hu q; omega))
    have e := hS j h2
    rw [z, i64_20.2.2] at e
    apply lt0_I.2.2.mpr
    rcases Int.mul_eq_zero.mp e.symm with k | k
    · omega
    · exact k
theorem and_sub {A t : Nat} (hA : A < 16) (ht : t < 16) : A &&& t = t ↔ t &&& (15 ^^^ A) = 0 := by
  have q : ∀ A, A < 16 → ∀ t, t < 16 → (A &&& t = t ↔ t &&& (15 ^^^ A) = 0) := by decide +kernel
  exact q A hA t ht
/-- a list as it should be -/
def LG (P : Nat → Int32) (ch m : Nat) (c : CL) : Prop := srt c ∧ ∀ j, j < c.1 → vG (c.2 j) ∧ (c.2 j).2.2.1 = usedB (c.2 j).1 4 ∧ (c.2 j).2.2.2 = ansB P (c.2 j).1 ch ∧ ∀ k, m ≤ k → k < 4 → (c.2 j).1 k = 0
theorem LG.cG {P : Nat → Int32} {ch m : Nat} {c : CL} (h : LG P ch m c) : cG c := fun j hj => (h.2 j hj).1
theorem pow16 {m : Nat} (h : m ≤ 4) : 2 ^ m ≤ 16 ∧ 1 ≤ 2 ^ m := by
  have q : ∀ m, m ≤ 4 → 2 ^ m ≤ 16 ∧ 1 ≤ 2 ^ m := by decide
  exact q m h
theorem LG_step {P : Nat → Int32} {ch m u t : Nat} {c : CL} (hb : bdP P) (hm : m ≤ 4) (h1 : 1 ≤ u) (hu : u < 2 ^ m) (h : LG P ch m c) : LG P ch m (stepC P ch c u t) := by
  have hu16 : u < 16 := Nat.lt_of_lt_of_le hu (pow16 hm).1
  unfold stepC
  cases e : cand P ch u t with
  | none => exact h
  | some v =>
    unfold cand at e
    split at e
    · rename_i q
      cases e
      have g := cand_vG (ch := ch) hu16 h1 hb q.1
      obtain ⟨-, -, -, -, c5⟩ := (cand_good (t := t) hu16 h1 hb).2 q.1
      refine ⟨ins_srt g h.cG h.1, ins_all (Φ := fun v => vG v ∧ v.2.2.1 = usedB v.1 4 ∧ v.2.2.2 = ansB P v.1 ch ∧ ∀ k, m ≤ k → k < 4 → v.1 k = 0) ⟨g, rfl, rfl, fun k h1 h2 => ?_⟩ h.2⟩
      exact c5 k (Bool.eq_false_iff.mpr (fun q => by have := tb_lt hu q; omega))
    · cases e
theorem LG_T {P : Nat → Int32} {ch m u : Nat} {c : CL} (hb : bdP P) (hm : m ≤ 4) (h1 : 1 ≤ u) (hu : u < 2 ^ m) (h : LG P ch m c) : ∀ j, LG P ch m (sT P ch u j c)
  | 0 => h
  | j + 1 => by
    unfold sT
    split
    · exact LG_step hb hm h1 hu (LG_T hb hm h1 hu h j)
    · exact LG_T hb hm h1 hu h j
theorem LG_U {P : Nat → Int32} {ch m M : Nat} (hb : bdP P) (hm : m ≤ 4) : ∀ i, i < 2 ^ m → LG P ch m (sU P ch M i)
  | 0, _ => ⟨fun i j _ h => absurd h (Nat.not_lt_zero j), fun j h => absurd h (Nat.not_lt_zero j)⟩
  | i + 1, h => LG_T hb hm (by omega) h (LG_U hb hm i (by omega)) M
theorem crR_keep {I I2 : gI} {J J2 : gJ} {h w : Nat} {c : CL} (hc : crR I J h w c) (h7 : I2 (h + 7) = I (h + 7)) (h10 : I2 (h + 10) = I (h + 10)) (h11 : I2 (h + 11) = I (h + 11)) (h8 : J2 (h + 8) = J (h + 8)) (h9 : J2 (h + 9) = J (h + 9)) : crR I2 J2 h w c := by
  unfold crR at *
  rw [h7, h10, h11, h8, h9]
  exact hc
/-- what findCorners leaves as it was -/
def fcF (I : gI) (J : gJ) (I2 : gI) (J2 : gJ) (h w : Nat) : Prop := (∀ q, q ≠ h + 7 → q ≠ h + 10 → q ≠ h + 11 → q ≠ h + 13 → q ≠ h + 14 → I2 q = I q) ∧ (∀ q, q ≠ h + 8 → q ≠ h + 9 → q ≠ h + 12 → q ≠ h + 15 → J2 q = J q) ∧ (∀ j, j ≠ w → I2 (h + 7) j = I (h + 7) j) ∧ ∀ x, x < 80 * w ∨ 80 * w + 80 ≤ x → rowI I2 J2 h x I J x
theorem fcF_tr {I I2 I3 : gI} {J J2 J3 : gJ} {h w : Nat} (a : fcF I J I2 J2 h w) (b : fcF I2 J2 I3 J3 h w) : fcF I J I3 J3 h w := ⟨fun q h1 h2 h3 h4 h5 => (b.1 q h1 h2 h3 h4 h5).trans (a.1 q h1 h2 h3 h4 h5), fun q h1 h2 h3 h4 => (b.2.1 q h1 h2 h3 h4).trans (a.2.1 q h1 h2 h3 h4), fun j hj => (b.2.2.1 j hj).trans (a.2.2.1 j hj), fun x hx => rowI_tr (b.2.2.2 x hx) (a.2.2.2 x hx)⟩
theorem fcF_of {I I2 : gI} {J J2 : gJ} {h w : Nat} (a : crF I J I2 J2 h w) : fcF I J I2 J2 h w := ⟨fun q h1 h2 h3 _ _ => a.1 q h1 h2 h3, fun q h1 h2 _ _ => a.2.1 q h1 h2, a.2.2.1, a.2.2.2⟩
/-- lists and shares laid -/
theorem fcF_sc {I I2 I3 : gI} {J J2 : gJ} {h w : Nat} {X Y : Nat → Int32} {Z S : Nat → Int64} (e1 : I2 = gu I (h + 13) X) (e2 : I3 = gu I2 (h + 14) Y) (e3 : J2 = shG J h Z S) : fcF I J I3 J2 h w := by
  have i : ∀ q, q ≠ h + 13 → q ≠ h + 14 → I3 q = I q := fun q h1 h2 => by rw [e2, gu_ne _ _ h2, e1, gu_ne _ _ h1]
  have j : ∀ q, q ≠ h + 12 → q ≠ h + 15 → J2 q = J q := fun q h1 h2 => by rw [e3]; exact shG_ne J Z S h1 h2
  exact ⟨fun q _ _ _ h1 h2 => i q h1 h2, fun q _ _ h1 h2 => j q h1 h2, fun k _ => by rw [i _ (by omega) (by omega)], fun x _ => ⟨by rw [i _ (by omega) (by omega)], by rw [i _ (by omega) (by omega)], by rw [j _ (by omega) (by omega)], fun k _ => by rw [j _ (by omega) (by omega)]⟩⟩
theorem crR_sc {I I2 I3 : gI} {J J2 : gJ} {h w : Nat} {X Y : Nat → Int32} {Z S : Nat → Int64} {c : CL} (hc : crR I J h w c) (e1 : I2 = gu I (h + 13) X) (e2 : I3 = gu I2 (h + 14) Y) (e3 : J2 = shG J h Z S) : crR I3 J2 h w c := by
  have i : ∀ q, q ≠ h + 13 → q ≠ h + 14 → I3 q = I q := fun q h1 h2 => by rw [e2, gu_ne _ _ h2, e1, gu_ne _ _ h1]
  have j : ∀ q, q ≠ h + 12 → q ≠ h + 15 → J2 q = J q := fun q h1 h2 => by rw [e3]; exact shG_ne J Z S h1 h2
  exact crR_keep hc (i _ (by omega) (by omega)) (i _ (by omega) (by omega)) (i _ (by omega) (by omega)) (j _ (by omega) (by omega)) (j _ (by omega) (by omega))
theorem moS_eq {I I2 : gI} {h : Nat} {st : GS} (hs : moS I h st) (e : ∀ q, h + 1 ≤ q → q ≤ h + 4 → I2 q = I q) : moS I2 h st := by
  unfold moS at *
  rw [e (h + 1) (by omega) (by omega), e (h + 2) (by omega) (by omega), e (h + 3) (by omega) (by omega), e (h + 4) (by omega) (by omega)]
  exact hs
theorem moS_fc {I I2 : gI} {J J2 : gJ} {h w : Nat} {st : GS} (hs : moS I h st) (f : fcF I J I2 J2 h w) : moS I2 h st := moS_eq hs (fun q h1 h2 => f.1 q (by omega) (by omega) (by omega) (by omega) (by omega))
theorem sT_t {P : Nat → Int32} {ch u j : Nat} {c : CL} (h : popc u = popc (j + 1)) : sT P ch u (j + 1) c = stepC P ch (sT P ch u j c) u (j + 1) := if_pos h
theorem sT_f {P : Nat → Int32} {ch u j : Nat} {c : CL} (h : ¬ popc u = popc (j + 1)) : sT P ch u (j + 1) c = sT P ch u j c := if_neg h
