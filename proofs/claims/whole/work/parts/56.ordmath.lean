/-! ===== the order of mixes in integers ===== -/
def cmpI (a b : Nat → Int) : Int32 := match fst4 (fun k => !decide (a k = b k)) with
  | none => 0
  | some k => if b k < a k then -1 else 1
theorem fst4_ex {p : Nat → Bool} {k : Nat} (h : fst4 p = some k) : k < 4 ∧ p k = true ∧ ∀ j, j < k → p j = false := by
  unfold fst4 at h
  obtain ⟨h1, h2, h3⟩ := List.find?_range_eq_some.mp h
  exact ⟨List.mem_range.mp h2, h1, fun j hj => by simpa using h3 j hj⟩
theorem fst4_no {p : Nat → Bool} (h : fst4 p = none) : ∀ j, j < 4 → p j = false := fun j hj => by
  have := List.find?_eq_none.mp h j (List.mem_range.mpr hj)
  exact Bool.eq_false_iff.mpr this
theorem cmpI_c (a b : Nat → Int) : (cmpI a b = 0 ∧ ∀ k, k < 4 → a k = b k) ∨ (cmpI a b = -1 ∧ ∃ k, k < 4 ∧ (∀ j, j < k → a j = b j) ∧ b k < a k) ∨ (cmpI a b = 1 ∧ ∃ k, k < 4 ∧ (∀ j, j < k → a j = b j) ∧ a k < b k) := by
  unfold cmpI
  cases e : fst4 (fun k => !decide (a k = b k)) with
  | none =>
    left
    refine ⟨rfl, fun k hk => ?_⟩
    simpa using fst4_no e k hk
  | some k =>
    obtain ⟨h1, h2, h3⟩ := fst4_ex e
    have h2 : ¬ a k = b k := by simpa using h2
    have h3 : ∀ j, j < k → a j = b j := fun j hj => by simpa using h3 j hj
    right
    by_cases c : b k < a k
    · left
      exact ⟨if_pos c, k, h1, h3, c⟩
    · right
      exact ⟨if_neg c, k, h1, h3, by omega⟩
theorem cmpI_3 (a b : Nat → Int) : cmpI a b = 0 ∨ cmpI a b = -1 ∨ cmpI a b = 1 := by
  rcases cmpI_c a b with h | h | h
  · exact Or.inl h.1
  · exact Or.inr (Or.inl h.1)
  · exact Or.inr (Or.inr h.1)
theorem cmpI_0 {a b : Nat → Int} (h : ∀ k, k < 4 → a k = b k) : cmpI a b = 0 := by
  rcases cmpI_c a b with q | ⟨-, k, hk, -, q⟩ | ⟨-, k, hk, -, q⟩
  · exact q.1
  · have := h k hk; omega
  · have := h k hk; omega
theorem cmpI_m {a b : Nat → Int} {k : Nat} (hk : k < 4) (h : ∀ j, j < k → a j = b j) (hb : b k < a k) : cmpI a b = -1 := by
  rcases cmpI_c a b with ⟨-, q⟩ | q | ⟨-, i, hi, q1, q2⟩
  · have := q k hk; omega
  · exact q.1
  · rcases Nat.lt_trichotomy i k with c | c | c
    · have := h i c; omega
    · subst c; omega
    · have := q1 k c; omega
theorem cmpI_p {a b : Nat → Int} {k : Nat} (hk : k < 4) (h : ∀ j, j < k → a j = b j) (hb : a k < b k) : cmpI a b = 1 := by
  rcases cmpI_c a b with ⟨-, q⟩ | ⟨-, i, hi, q1, q2⟩ | q
  · have := q k hk; omega
  · rcases Nat.lt_trichotomy i k with c | c | c
    · have := h i c; omega
    · subst c; omega
    · have := q1 k c; omega
  · exact q.1
theorem cmpI_sc {a b a' b' : Nat → Int} {D : Int} (hD : 0 < D) (ha : ∀ k, k < 4 → a k = D * a' k) (hb : ∀ k, k < 4 → b k = D * b' k) : cmpI a b = cmpI a' b' := by
  have e : ∀ k, k < 4 → a' k = b' k → a k = b k := fun k hk h => by rw [ha k hk, hb k hk, h]
  have l : ∀ x y : Int, x < y → D * x < D * y := fun x y h => Int.mul_lt_mul_of_pos_left h hD
  rcases cmpI_c a' b' with ⟨q1, q⟩ | ⟨q1, k, hk, q2, q3⟩ | ⟨q1, k, hk, q2, q3⟩
  · rw [q1]
    exact cmpI_0 (fun k hk => e k hk (q k hk))
  · rw [q1]
    exact cmpI_m hk (fun j hj => e j (by omega) (q2 j hj)) (by rw [ha k hk, hb k hk]; exact l _ _ q3)
  · rw [q1]
    exact cmpI_p hk (fun j hj => e j (by omega) (q2 j hj)) (by rw [ha k hk, hb k hk]; exact l _ _ q3)
theorem ordM_I {X Y : Nat → Int64} {t u : Int64} : ordM X t Y u = cmpI (fun k => (X k * u).toInt) (fun k => (Y k * t).toInt) := by
  unfold ordM cmpI
  have e : (fun k => !decide (X k * u = Y k * t)) = (fun k => !decide ((X k * u).toInt = (Y k * t).toInt)) := by
    funext k
    congr 1
    apply decide_eq_decide.mpr
    rw [Int64.toInt_inj]
  rw [e]
  cases fst4 (fun k => !decide ((X k * u).toInt = (Y k * t).toInt)) with
  | none => rfl
  | some k =>
    show (if Y k * t < X k * u then (-1 : Int32) else 1) = if (Y k * t).toInt < (X k * u).toInt then -1 else 1
    simp only [Int64.lt_iff_toInt_lt]
/-- a mix whose numbers are as they should be -/
def vG (v : MixV) : Prop := (∀ j, j < 4 → 0 ≤ (v.1 j).toInt ∧ (v.1 j).toInt ≤ 384000) ∧ v.2.1.toInt = (v.1 0).toInt + (v.1 1).toInt + (v.1 2).toInt + (v.1 3).toInt ∧ 0 < v.2.1.toInt
/-- shares S over t are the mix's, reduced -/
def rdV (v : MixV) (S : Nat → Int64) (t : Int64) : Prop := ∃ D : Int, 0 < D ∧ (∀ j, j < 4 → (v.1 j).toInt = D * (S j).toInt) ∧ v.2.1.toInt = D * t.toInt
theorem vG_t {v : MixV} (h : vG v) : 0 < v.2.1.toInt ∧ v.2.1.toInt ≤ 1536000 := by
  have a := h.1 0 (by decide)
  have b := h.1 1 (by decide)
  have c := h.1 2 (by decide)
  have d := h.1 3 (by decide)
  have e := h.2.1
  have f := h.2.2
  omega
theorem mul_ex {x y : Int64} (hx : 0 ≤ x.toInt ∧ x.toInt ≤ 384000) (hy : 0 ≤ y.toInt ∧ y.toInt ≤ 1536000) : (x * y).toInt = x.toInt * y.toInt := by
  have h1 := Int.mul_nonneg hx.1 hy.1
  have h2 : x.toInt * y.toInt ≤ 384000 * 1536000 := Int.mul_le_mul hx.2 hy.2 hy.1 (by decide)
  exact mul_I (by omega) (by omega)
/-- the products that are compared -/
def pvI (v w : MixV) (k : Nat) : Int := (v.1 k).toInt * w.2.1.toInt
theorem cmpI_cg {a b a' b' : Nat → Int} (ha : ∀ k, k < 4 → a k = a' k) (hb : ∀ k, k < 4 → b k = b' k) : cmpI a b = cmpI a' b' := cmpI_sc (D := 1) (by decide) (fun k hk => by rw [Int.one_mul]; exact ha k hk) (fun k hk => by rw [Int.one_mul]; exact hb k hk)
theorem ordV_I {v w : MixV} (hv : vG v) (hw : vG w) : ordV v w = cmpI (pvI v w) (pvI w v) := by
  have tv := vG_t hv
  have tw := vG_t hw
  unfold ordV
  rw [ordM_I]
  exact cmpI_cg (fun k hk => mul_ex (hv.1 k hk) (by omega)) (fun k hk => mul_ex (hw.1 k hk) (by omega))
theorem rd_b {v : MixV} {S : Nat → Int64} {t : Int64} (hv : vG v) (h : rdV v S t) : (∀ j, j < 4 → 0 ≤ (S j).toInt ∧ (S j).toInt ≤ 384000) ∧ (0 < t.toInt ∧ t.toInt ≤ 1536000) := by
  obtain ⟨D, hD, h1, h2⟩ := h
  have key : ∀ x y : Int, 0 ≤ x → x = D * y → 0 ≤ y ∧ y ≤ x := fun x y hx e => by
    have a : 0 ≤ y := by
      rcases Int.lt_or_le y 0 with c | c
      · have := Int.mul_neg_of_pos_of_neg hD c
        omega
      · exact c
    have b := Int.mul_le_mul_of_nonneg_right (show 1 ≤ D by omega) a
    omega
  have tv := vG_t hv
  refine ⟨fun j hj => ?_, ?_⟩
  · have b := hv.1 j hj
    have := key _ _ b.1 (h1 j hj)
    omega
  · have q := key _ _ (by omega) h2
    have n : t.toInt ≠ 0 := fun e => by rw [e, Int.mul_zero] at h2; omega
    omega
theorem rd_ord {v w : MixV} {S X : Nat → Int64} {a t : Int64} (hv : vG v) (hw : vG w) (h1 : rdV v S a) (h2 : rdV w X t) : ordM S a X t = ordV v w := by
  have b1 := rd_b hv h1
  have b2 := rd_b hw h2
  rw [ordV_I hv hw, ordM_I, cmpI_cg (fun k hk => mul_ex (b1.1 k hk) (by omega)) (fun k hk => mul_ex (b2.1 k hk) (by omega))]
  obtain ⟨D, hD, e1, e2⟩ := h1
  obtain ⟨E, hE, e3, e4⟩ := h2
  symm
  refine cmpI_sc (D := D * E) (Int.mul_pos hD hE) (fun k hk => ?_) (fun k hk => ?_)
  · unfold pvI
    rw [e1 k hk, e4, Int.mul_assoc D E, Int.mul_assoc D, Int.mul_left_comm E]
  · unfold pvI
    rw [e3 k hk, e2, Int.mul_assoc D E, Int.mul_assoc E, Int.mul_left_comm D E, Int.mul_left_comm D (X k).toInt]
/-! crosswise -/
theorem tri_eq {a b c ta tb tc : Int} (hb : 0 < tb) (h1 : a * tb = b * ta) (h2 : b * tc = c * tb) : a * tc = c * ta := by
  have e : (a * tc) * tb = (c * ta) * tb := by
    rw [Int.mul_right_comm a tc tb, h1, Int.mul_right_comm b ta tc, h2, Int.mul_right_comm c tb ta]
  exact Int.eq_of_mul_eq_mul_right (by omega) e
theorem tri_lt1 {a b c ta tb tc : Int} (ha : 0 < ta) (hb : 0 < tb) (hc : 0 < tc) (h1 : b * ta < a * tb) (h2 : c * tb ≤ b * tc) : c * ta < a * tc := by
  have k1 := Int.mul_lt_mul_of_pos_right h1 hc
  have k2 := Int.mul_le_mul_of_nonneg_right h2 (show 0 ≤ ta by omega)
  have e : (c * ta) * tb < (a * tc) * tb := by
    rw [Int.mul_right_comm c ta tb, Int.mul_right_comm a tc tb]
    rw [Int.mul_right_comm b ta tc] at k1
    omega
  exact Int.lt_of_mul_lt_mul_right e (by omega)
theorem tri_lt2 {a b c ta tb tc : Int} (ha : 0 < ta) (hb : 0 < tb) (hc : 0 < tc) (h1 : b * ta ≤ a * tb) (h2 : c * tb < b * tc) : c * ta < a * tc := by
  have k1 := Int.mul_le_mul_of_nonneg_right h1 (show 0 ≤ tc by omega)
  have k2 := Int.mul_lt_mul_of_pos_right h2 ha
  have e : (c * ta) * tb < (a * tc) * tb := by
    rw [Int.mul_right_comm c ta tb, Int.mul_right_comm a tc tb]
    rw [Int.mul_right_comm b ta tc] at k1
    omega
  exact Int.lt_of_mul_lt_mul_right e (by omega)
theorem i32_pm : (-1 : Int32) < 0 ∧ ¬ (0 : Int32) < 0 ∧ ¬ (1 : Int32) < 0 ∧ (0 : Int32) < 1 ∧ ¬ (0 : Int32) < -1 := by decide
theorem ordV_3 {v w : MixV} : ordV v w = 0 ∨ ordV v w = -1 ∨ ordV v w = 1 := by
  unfold ordV
  rw [ordM_I]
  exact cmpI_3 _ _
theorem ordV_tr {a b c : MixV} (ha : vG a) (hb : vG b) (hc : vG c) (h1 : ordV a b < 0) (h2 : ordV b c < 0) : ordV a c < 0 := by
  have ta := (vG_t ha).1
  have tb := (vG_t hb).1
  have tc := (vG_t hc).1
  rw [ordV_I ha hb] at h1
  rw [ordV_I hb hc] at h2
  rw [ordV_I ha hc]
  rcases cmpI_c (pvI a b) (pvI b a) with ⟨q, -⟩ | ⟨-, k1, l1, p1, r1⟩ | ⟨q, -⟩
  · rw [q] at h1; exact absurd h1 (by decide)
  · rcases cmpI_c (pvI b c) (pvI c b) with ⟨q, -⟩ | ⟨-, k2, l2, p2, r2⟩ | ⟨q, -⟩
    · rw [q] at h2; exact absurd h2 (by decide)
    · have eq : ∀ j, pvI a b j = pvI b a j → pvI b c j = pvI c b j → pvI a c j = pvI c a j := fun j g1 g2 => tri_eq tb g1 g2
      rcases Nat.lt_trichotomy k1 k2 with k | k | k
      · rw [cmpI_m l1 (fun j hj => eq j (p1 j hj) (p2 j (by omega))) (tri_lt1 ta tb tc r1 (Int.le_of_eq (p2 k1 k).symm))]
        decide
      · subst k
        rw [cmpI_m l1 (fun j hj => eq j (p1 j hj) (p2 j hj)) (tri_lt1 ta tb tc r1 (Int.le_of_lt r2))]
        decide
      · rw [cmpI_m l2 (fun j hj => eq j (p1 j (by omega)) (p2 j hj)) (tri_lt2 ta tb tc (Int.le_of_eq (p1 k2 k).symm) r2)]
        decide
    · rw [q] at h2; exact absurd h2 (by decide)
  · rw [q] at h1; exact absurd h1 (by decide)
theorem ordV_as {a b : MixV} (ha : vG a) (hb : vG b) (h : 0 < ordV a b) : ordV b a < 0 := by
  rw [ordV_I ha hb] at h
  rw [ordV_I hb ha]
  rcases cmpI_c (pvI a b) (pvI b a) with ⟨q, -⟩ | ⟨q, -⟩ | ⟨-, k, l, p, r⟩
  · rw [q] at h; exact absurd h (by decide)
  · rw [q] at h; exact absurd h (by decide)
  · rw [cmpI_m l (fun j hj => (p j hj).symm) r]
    decide
theorem ordV_sy {a b : MixV} (ha : vG a) (hb : vG b) : ordV a b = 0 ↔ ordV b a = 0 := by
  have key : ∀ a b : MixV, vG a → vG b → ordV a b = 0 → ordV b a = 0 := fun a b ha hb h => by
    rw [ordV_I ha hb] at h
    rw [ordV_I hb ha]
    rcases cmpI_c (pvI a b) (pvI b a) with ⟨-, q⟩ | ⟨q, -⟩ | ⟨q, -⟩
    · exact cmpI_0 (fun k hk => (q k hk).symm)
    · rw [q] at h; exact absurd h (by decide)
    · rw [q] at h; exact absurd h (by decide)
  exact ⟨key a b ha hb, key b a hb ha⟩
/-! lists in order -/
def cG (c : CL) : Prop := ∀ j, j < c.1 → vG (c.2 j)
def srt (c : CL) : Prop := ∀ i j, i < j → j < c.1 → ordV (c.2 i) (c.2 j) < 0
theorem ins_cG {v : MixV} {c : CL} (hv : vG v) (hc : cG c) : cG (insC v c) := by
  unfold insC
  split
  · exact hc
  · intro j hj
    have hj' : j < c.1 + 1 := hj
    show vG (if j < insP v c then c.2 j else if j = insP v c then v else c.2 (j - 1))
    have hp : insP v c ≤ c.1 := by
      unfold insP
      cases e : fstN (fun j => decide (ordV v (c.2 j) < 0)) c.1 with
      | none => exact Nat.le_refl _
      | some k => exact Nat.le_of_lt (fstN_lt e).1
    split
    · exact hc j (by omega)
    · split
      · exact hv
      · exact hc (j - 1) (by omega)
theorem ins_new {v : MixV} {c : CL} {a : Nat} (hv : vG v) (hc : cG c) (hs : srt c) (ha : a ≤ c.1) (h1 : ∀ j, j < a → 0 < ordV v (c.2 j)) (h2 : a < c.1 → ordV v (c.2 a) < 0) : insC v c = (c.1 + 1, fun j => if j < a then c.2 j else if j = a then v else c.2 (j - 1)) ∧ srt (insC v c) := by
  have after : ∀ j, a ≤ j → j < c.1 → ordV v (c.2 j) < 0 := fun j h3 h4 => by
    rcases Nat.eq_or_lt_of_le h3 with e | e
    · subst e; exact h2 h4
    · exact ordV_tr hv (hc a (by omega)) (hc j h4) (h2 (by omega)) (hs a j e h4)
  have np : ∀ j, j < a → ¬ ordV v (c.2 j) < 0 := fun j hj q => by
    rcases ordV_3 (v := v) (w := c.2 j) with e | e | e
    · rw [e] at q; exact absurd q (by decide)
    · have := h1 j hj; rw [e] at this; exact absurd this (by decide)
    · rw [e] at q; exact absurd q (by decide)
  have e : insC v c = (c.1 + 1, fun j => if j < a then c.2 j else if j = a then v else c.2 (j - 1)) := by
    rw [insC_new (fun j hj q => ?_), insP_eq ha np h2]
    by_cases c1 : j < a
    · have := h1 j c1
      rw [q] at this
      exact absurd this (by decide)
    · have := after j (by omega) hj
      rw [q] at this
      exact absurd this (by decide)
  refine ⟨e, ?_⟩
  rw [e]
  intro i j hij hj
  have hj' : j < c.1 + 1 := hj
  show ordV (if i < a then c.2 i else if i = a then v else c.2 (i - 1)) (if j < a then c.2 j else if j = a then v else c.2 (j - 1)) < 0
  by_cases i1 : i < a
  · rw [if_pos i1]
    by_cases j1 : j < a
    · rw [if_pos j1]; exact hs i j hij (by omega)
    · rw [if_neg j1]
      by_cases j2 : j = a
      · rw [if_pos j2]; exact ordV_as hv (hc i (by omega)) (h1 i i1)
      · rw [if_neg j2]
        exact hs i (j - 1) (by omega) (by omega)
  · rw [if_neg i1, if_neg (show ¬ j < a by omega), if_neg (show ¬ j = a by omega)]
    by_cases i2 : i = a
    · rw [if_pos i2]; exact after (j - 1) (by omega) (by omega)
    · rw [if_neg i2]; exact hs (i - 1) (j - 1) (by omega) (by omega)
