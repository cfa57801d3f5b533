/-! ===== candidates in integers ===== -/
theorem ab_b {a b A B : Int} (ha : -A ≤ a ∧ a ≤ A) (hb : -B ≤ b ∧ b ≤ B) : -(A * B) ≤ a * b ∧ a * b ≤ A * B := by
  have h1 := Int.mul_nonneg (show 0 ≤ A - a by omega) (show 0 ≤ B + b by omega)
  have h2 := Int.mul_nonneg (show 0 ≤ A + a by omega) (show 0 ≤ B - b by omega)
  have h3 := Int.mul_nonneg (show 0 ≤ A - a by omega) (show 0 ≤ B - b by omega)
  have h4 := Int.mul_nonneg (show 0 ≤ A + a by omega) (show 0 ≤ B + b by omega)
  simp only [Int.mul_add, Int.add_mul, Int.mul_sub, Int.sub_mul] at h1 h2 h3 h4
  omega
def bdI (x : Int64) (A : Int) : Prop := -A ≤ x.toInt ∧ x.toInt ≤ A
theorem bd_mul {x y : Int64} {A B : Int} (hx : bdI x A) (hy : bdI y B) (h : A * B < 4611686018427387904) : bdI (x * y) (A * B) := by
  have q := ab_b hx hy
  unfold bdI
  rw [mul_I (by omega) (by omega)]
  exact q
theorem bd_sub {x y : Int64} {A B : Int} (hx : bdI x A) (hy : bdI y B) (h : A + B < 4611686018427387904) : bdI (x - y) (A + B) := by
  unfold bdI at *
  rw [Int64.toInt_sub, bm64 (by omega) (by omega)]
  omega
theorem bd_add {x y : Int64} {A B : Int} (hx : bdI x A) (hy : bdI y B) (h : A + B < 4611686018427387904) : bdI (x + y) (A + B) := by
  unfold bdI at *
  rw [Int64.toInt_add, bm64 (by omega) (by omega)]
  omega
theorem bd_neg {x : Int64} {A : Int} (hx : bdI x A) (h : A < 4611686018427387904) : bdI (-x) A := by
  unfold bdI at *
  rw [Int64.toInt_neg, bm64 (by omega) (by omega)]
  omega
theorem bd_le {x : Int64} {A B : Int} (hx : bdI x A) (h : A ≤ B) : bdI x B := by
  unfold bdI at *
  omega
theorem gap_b {P : Nat → Int32} (hb : bdP P) (u t ln pl : Nat) : bdI (gapM P u t ln pl) 40 := by
  have n1 := nth_lt t (ln + 1)
  have n2 := nth_lt t 0
  have n3 := nth_lt u pl
  have b1 := bd_int (hb (nth t (ln + 1) * 4 + nth u pl) (by omega))
  have b2 := bd_int (hb (nth t 0 * 4 + nth u pl) (by omega))
  unfold bdI gapM
  rw [Int32.toInt_toInt64, Int32.toInt_sub, Int.bmod_eq_of_le (by omega) (by omega)]
  omega
theorem det2_b {M : Nat → Nat → Int64} (hM : ∀ x y, bdI (M x y) 40) (x y a b : Nat) : bdI (det2 M x y a b) 3200 :=
  bd_le (bd_sub (bd_mul (hM x a) (hM y b) (by decide)) (bd_mul (hM x b) (hM y a) (by decide)) (by decide)) (by decide)
theorem det_b {M : Nat → Nat → Int64} (hM : ∀ x y, bdI (M x y) 40) (place lines : Nat) : bdI (detS M place lines) 384000 := by
  match lines with
  | 0 => show bdI 1 384000; unfold bdI; decide
  | 1 => exact bd_le (hM _ _) (by decide)
  | 2 => exact bd_le (det2_b hM _ _ _ _) (by decide)
  | n + 3 => exact bd_le (bd_add (bd_sub (bd_mul (hM _ _) (det2_b hM _ _ _ _) (by decide)) (bd_mul (hM _ _) (det2_b hM _ _ _ _) (by decide)) (by decide)) (bd_mul (hM _ _) (det2_b hM _ _ _ _) (by decide)) (by decide)) (by decide)
theorem cX_b {P : Nat → Int32} (hb : bdP P) (u t j : Nat) : bdI (candX P u t j) 384000 := by
  unfold candX partF
  split
  · split
    · exact det_b (gap_b hb u t) _ _
    · exact bd_neg (det_b (gap_b hb u t) _ _) (by decide)
  · unfold bdI; decide
theorem cX_0 {P : Nat → Int32} {u t j : Nat} (h : u.testBit j = false) : candX P u t j = 0 := by
  unfold candX partF
  rw [h]
  rfl
theorem cX_nth {P : Nat → Int32} {u t z : Nat} (hu : u < 16) (hz : z < popc u) : candX P u t (nth u z) = if z % 2 = 0 then detS (gapM P u t) z (popc u - 1) else - detS (gapM P u t) z (popc u - 1) := by
  obtain ⟨h1, h2⟩ := nth_ok hu hz
  unfold candX partF
  rw [h1, h2, if_pos rfl]
/-! sums and signs -/
def alF (X : Nat → Int64) (u : Nat) : Nat → Int64
  | 0 => 0
  | p + 1 => alF X u p + X (nth u p)
def gdF (X : Nat → Int64) (u : Nat) (al : Int64) : Nat → Bool
  | 0 => !decide (al = 0)
  | p + 1 => gdF X u al p && (!decide (X (nth u p) = 0) && (decide (0 < X (nth u p)) == decide (0 < al)))
theorem al_I {X : Nat → Int64} {u : Nat} (hX : ∀ j, bdI (X j) 384000) : ∀ z, z ≤ 4 → bdI (alF X u z) (384000 * z) ∧ (alF X u (z + 1)).toInt = (alF X u z).toInt + (X (nth u z)).toInt
  | 0, _ => by
    have b := hX (nth u 0)
    refine ⟨by show bdI 0 (384000 * ((0 : Nat) : Int)); unfold bdI; decide, ?_⟩
    show (0 + X (nth u 0)).toInt = (0 : Int64).toInt + _
    unfold bdI at b
    rw [Int64.toInt_add, i64_20.2.2, bm64 (by omega) (by omega)]
  | z + 1, h => by
    obtain ⟨a, e⟩ := al_I (u := u) hX z (by omega)
    have b := hX (nth u z)
    have b2 := hX (nth u (z + 1))
    have c : bdI (alF X u (z + 1)) (384000 * ((z + 1 : Nat) : Int)) := by
      unfold bdI at *
      rw [e]
      omega
    refine ⟨c, ?_⟩
    show (alF X u (z + 1) + X (nth u (z + 1))).toInt = _
    unfold bdI at b2 c
    rw [Int64.toInt_add, bm64 (by omega) (by omega)]
theorem al_pos {X : Nat → Int64} {u : Nat} (hX : ∀ j, bdI (X j) 384000) : ∀ z, z ≤ 4 → (∀ p, p < z → 0 < (X (nth u p)).toInt) → (z : Int) ≤ (alF X u z).toInt
  | 0, _, _ => by show (0 : Int) ≤ (0 : Int64).toInt; decide
  | z + 1, h, hp => by
    have i := al_pos hX z (by omega) (fun p hq => hp p (by omega))
    have e := (al_I (u := u) hX z (by omega)).2
    have := hp z (by omega)
    rw [e]
    omega
theorem al_neg {X : Nat → Int64} {u : Nat} (hX : ∀ j, bdI (X j) 384000) : ∀ z, z ≤ 4 → (∀ p, p < z → (X (nth u p)).toInt < 0) → (alF X u z).toInt ≤ -(z : Int)
  | 0, _, _ => by show (0 : Int64).toInt ≤ 0; decide
  | z + 1, h, hp => by
    have i := al_neg hX z (by omega) (fun p hq => hp p (by omega))
    have e := (al_I (u := u) hX z (by omega)).2
    have := hp z (by omega)
    rw [e]
    omega
theorem lt0_I {x : Int64} : (0 < x ↔ 0 < x.toInt) ∧ (x < 0 ↔ x.toInt < 0) ∧ (x = 0 ↔ x.toInt = 0) := by
  refine ⟨by rw [Int64.lt_iff_toInt_lt, i64_20.2.2], by rw [Int64.lt_iff_toInt_lt, i64_20.2.2], ?_⟩
  rw [← Int64.toInt_inj, i64_20.2.2]
theorem gd_iff {X : Nat → Int64} {u : Nat} {al : Int64} : ∀ z, gdF X u al z = true ↔ ¬ al.toInt = 0 ∧ ∀ p, p < z → ¬ (X (nth u p)).toInt = 0 ∧ (0 < (X (nth u p)).toInt ↔ 0 < al.toInt)
  | 0 => by
    show (!decide (al = 0)) = true ↔ _
    rw [Bool.not_eq_true', decide_eq_false_iff_not, lt0_I.2.2]
    exact ⟨fun h => ⟨h, fun p hp => absurd hp (Nat.not_lt_zero p)⟩, fun h => h.1⟩
  | z + 1 => by
    show (gdF X u al z && (!decide (X (nth u z) = 0) && (decide (0 < X (nth u z)) == decide (0 < al)))) = true ↔ _
    rw [Bool.and_eq_true, gd_iff z, Bool.and_eq_true, Bool.not_eq_true', decide_eq_false_iff_not, beq_iff_eq, lt0_I.2.2, decide_eq_decide, lt0_I.1, lt0_I.1]
    constructor
    · rintro ⟨⟨a, b⟩, c, d⟩
      refine ⟨a, fun p hp => ?_⟩
      rcases Nat.lt_succ_iff_lt_or_eq.mp hp with h | rfl
      · exact b p h
      · exact ⟨c, d⟩
    · rintro ⟨a, b⟩
      exact ⟨⟨a, fun p hp => b p (by omega)⟩, b z (by omega)⟩
theorem sgn_eq {X : Nat → Int64} {u : Nat} (hu : u < 16) (h1 : 1 ≤ u) : sgnF X u = if X (nth u 0) < 0 then -1 else 1 := by
  obtain ⟨f, hf⟩ := fst_ex hu h1
  unfold sgnF
  rw [hf, nth_fst hu hf]
theorem mul_1 (x : Int64) : x * 1 = x := Int64.mul_one x
theorem mul_m1 (x : Int64) : x * -1 = -x := by rw [Int64.mul_neg, Int64.mul_one]
theorem neg_I {x : Int64} (h : bdI x 384000) : (-x).toInt = -x.toInt := by
  unfold bdI at h
  rw [Int64.toInt_neg, bm64 (by omega) (by omega)]
theorem pos_two {X : Nat → Int64} {u : Nat} (hu : u < 16) (h1 : 1 ≤ u) (hX : ∀ j, bdI (X j) 384000) : (posOK X u = true ↔ ((∀ p, p < popc u → 0 < (X (nth u p)).toInt) ∨ (∀ p, p < popc u → (X (nth u p)).toInt < 0))) ∧ ((∀ p, p < popc u → 0 < (X (nth u p)).toInt) → sgnF X u = 1) ∧ ((∀ p, p < popc u → (X (nth u p)).toInt < 0) → sgnF X u = -1) := by
  have hp := popc_1 hu h1
  have s1 : (∀ p, p < popc u → 0 < (X (nth u p)).toInt) → sgnF X u = 1 := fun h => by
    rw [sgn_eq hu h1, if_neg]
    have := h 0 (by omega)
    rw [lt0_I.2.1]
    omega
  have s2 : (∀ p, p < popc u → (X (nth u p)).toInt < 0) → sgnF X u = -1 := fun h => by
    rw [sgn_eq hu h1, if_pos]
    have := h 0 (by omega)
    rw [lt0_I.2.1]
    omega
  refine ⟨?_, s1, s2⟩
  rw [posOK_iff]
  constructor
  · intro h
    by_cases c : X (nth u 0) < 0
    · right
      intro p hq
      have k := h (nth u p) (nth_lt _ _) (nth_ok hu hq).1
      rw [sgn_eq hu h1, if_pos c, mul_m1, lt0_I.1, neg_I (hX _)] at k
      omega
    · left
      intro p hq
      have k := h (nth u p) (nth_lt _ _) (nth_ok hu hq).1
      rw [sgn_eq hu h1, if_neg c, mul_1, lt0_I.1] at k
      exact k
  · intro h k hk hb
    have hr := rnk_popc_lt hu hk hb
    have hn := nth_rnk hu hk hb
    rcases h with h | h
    · rw [s1 h, mul_1, lt0_I.1]
      have := h _ hr
      rw [hn] at this
      exact this
    · rw [s2 h, mul_m1, lt0_I.1, neg_I (hX _)]
      have := h _ hr
      rw [hn] at this
      omega
/-- what solve finds -/
theorem cand_good {P : Nat → Int32} {u t : Nat} (hu : u < 16) (h1 : 1 ≤ u) (hb : bdP P) : gdF (candX P u t) u (alF (candX P u t) u (popc u)) (popc u) = posOK (candX P u t) u ∧ (posOK (candX P u t) u = true → (alF (candX P u t) u (popc u) < 0 → ∀ j, candY P u t j = - candX P u t j) ∧ (¬ alF (candX P u t) u (popc u) < 0 → ∀ j, candY P u t j = candX P u t j) ∧ (∀ j, j < 4 → 0 ≤ (candY P u t j).toInt ∧ (candY P u t j).toInt ≤ 384000) ∧ (∀ j, j < 4 → u.testBit j = true → 0 < (candY P u t j).toInt) ∧ ∀ j, u.testBit j = false → candY P u t j = 0) := by
  have hX := cX_b hb u t
  have hp := popc_1 hu h1
  obtain ⟨pi, s1, s2⟩ := pos_two hu h1 hX
  have ap := al_pos (u := u) hX (popc u) hp.2
  have an := al_neg (u := u) hX (popc u) hp.2
  refine ⟨?_, fun h => ?_⟩
  · rw [Bool.eq_iff_iff, gd_iff, pi]
    constructor
    · rintro ⟨a, b⟩
      by_cases c : 0 < (alF (candX P u t) u (popc u)).toInt
      · left
        intro p hq
        exact (b p hq).2.mpr c
      · right
        intro p hq
        have k := b p hq
        have := mt k.2.mp c
        omega
    · rintro (h | h)
      · have a := ap h
        refine ⟨by omega, fun p hq => ?_⟩
        have := h p hq
        exact ⟨by omega, fun _ => by omega, fun _ => this⟩
      · have a := an h
        refine ⟨by omega, fun p hq => ?_⟩
        have := h p hq
        exact ⟨by omega, fun q => by omega, fun q => by omega⟩
  · have z0 : ∀ j, u.testBit j = false → candY P u t j = 0 := fun j hj => by
      unfold candY
      rw [cX_0 hj, Int64.zero_mul]
    rcases pi.mp h with k | k
    · have a := ap k
      have e : ∀ j, candY P u t j = candX P u t j := fun j => by
        unfold candY
        rw [s1 k, mul_1]
      refine ⟨fun c => by rw [lt0_I.2.1] at c; omega, fun _ => e, fun j hj => ?_, fun j hj hb => ?_, z0⟩
      · rw [e]
        have := hX j
        unfold bdI at this
        cases hb : u.testBit j
        · rw [cX_0 hb]; decide
        · have q := k _ (rnk_popc_lt hu hj hb)
          rw [nth_rnk hu hj hb] at q
          omega
      · rw [e]
        have q := k _ (rnk_popc_lt hu hj hb)
        rw [nth_rnk hu hj hb] at q
        exact q
    · have a := an k
      have e : ∀ j, candY P u t j = - candX P u t j := fun j => by
        unfold candY
        rw [s2 k, mul_m1]
      refine ⟨fun _ => e, fun c => by rw [lt0_I.2.1] at c; omega, fun j hj => ?_, fun j hj hb => ?_, z0⟩
      · rw [e, neg_I (hX j)]
        have := hX j
        unfold bdI at this
        cases hb : u.testBit j
        · rw [cX_0 hb]; decide
        · have q := k _ (rnk_popc_lt hu hj hb)
          rw [nth_rnk hu hj hb] at q
          omega
      · rw [e, neg_I (hX j)]
        have q := k _ (rnk_popc_lt hu hj hb)
        rw [nth_rnk hu hj hb] at q
        omega
/-! the common factor of all shares -/
def gNF (Y : Nat → Int64) : Nat → Nat
  | 0 => 0
  | z + 1 => Nat.gcd (gNF Y z) (Y z).toInt.natAbs
theorem gN_dvd {Y : Nat → Int64} : ∀ z j, j < z → gNF Y z ∣ (Y j).toInt.natAbs
  | 0, j, h => absurd h (Nat.not_lt_zero j)
  | z + 1, j, h => by
    unfold gNF
    rcases Nat.lt_succ_iff_lt_or_eq.mp h with k | rfl
    · exact Nat.dvd_trans (Nat.gcd_dvd_left _ _) (gN_dvd z j k)
    · exact Nat.gcd_dvd_right _ _
theorem gcd_sum (a b : Nat) : Nat.gcd a b ≤ a + b := by
  rcases Nat.eq_zero_or_pos a with h | h
  · rw [h, Nat.gcd_zero_left]; omega
  · have := Nat.gcd_le_left b h
    omega
theorem gN_le {Y : Nat → Int64} (hY : ∀ j, j < 4 → 0 ≤ (Y j).toInt ∧ (Y j).toInt ≤ 384000) : ∀ z, z ≤ 4 → gNF Y z ≤ z * 384000
  | 0, _ => Nat.le_refl 0
  | z + 1, h => by
    have a := gN_le hY z (by omega)
    have b := hY z (by omega)
    have c := gcd_sum (gNF Y z) (Y z).toInt.natAbs
    unfold gNF
    omega
theorem gN_pos {Y : Nat → Int64} {z j : Nat} (hj : j < z) (h : 0 < (Y j).toInt) : 0 < gNF Y z := by
  rcases Nat.eq_zero_or_pos (gNF Y z) with e | e
  · have := gN_dvd (Y := Y) z j hj
    rw [e, Nat.zero_dvd] at this
    omega
  · exact e
theorem div_I {x y : Int64} (hx : 0 ≤ x.toInt) (hy : 0 < y.toInt) : (x / y).toInt = x.toInt / y.toInt := by
  have bx := i64_b x
  have d0 : 0 ≤ x.toInt / y.toInt := Int.ediv_nonneg hx (by omega)
  have d1 : x.toInt / y.toInt ≤ x.toInt := Int.ediv_le_self _ hx
  rw [Int64.toInt_div, Int.tdiv_eq_ediv_of_nonneg hx]
  exact bm64 (by omega) (by omega)
theorem red_I {x y : Int64} {g : Nat} (hx : 0 ≤ x.toInt) (hy : y.toInt = g) (hg : 0 < g) (hd : g ∣ x.toInt.natAbs) : x.toInt = (g : Int) * (x / y).toInt := by
  rw [div_I hx (by omega), hy]
  obtain ⟨k, hk⟩ := hd
  have e : x.toInt = (g : Int) * (k : Int) := by
    have : (x.toInt.natAbs : Int) = ((g * k : Nat) : Int) := by rw [hk]
    rw [Int.natCast_mul] at this
    omega
  rw [e, Int.mul_ediv_cancel_left _ (by omega)]
