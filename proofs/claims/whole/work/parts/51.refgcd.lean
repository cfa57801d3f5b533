/-! ===== common factors ===== -/
theorem i64_b (x : Int64) : -9223372036854775808 ≤ x.toInt ∧ x.toInt < 9223372036854775808 := ⟨Int64.le_toInt x, Int64.toInt_lt x⟩
theorem bm64 {x : Int} (h1 : -9223372036854775808 ≤ x) (h2 : x < 9223372036854775808) : x.bmod (2 ^ 64) = x := Int.bmod_eq_of_le (by omega) (by omega)
theorem rem_I {x y : Int64} (hx : 0 ≤ x.toInt) (hy : 0 < y.toInt) : (x - x / y * y).toInt = x.toInt % y.toInt := by
  have bx := i64_b x
  have d0 : 0 ≤ x.toInt / y.toInt := Int.ediv_nonneg hx (by omega)
  have d1 : x.toInt / y.toInt ≤ x.toInt := Int.ediv_le_self _ hx
  have d2 := Int.mul_ediv_add_emod x.toInt y.toInt
  have d3 := Int.emod_nonneg x.toInt (show y.toInt ≠ 0 by omega)
  have m0 : 0 ≤ x.toInt / y.toInt * y.toInt := Int.mul_nonneg d0 (by omega)
  rw [Int.mul_comm] at d2
  have e1 : (x / y).toInt = x.toInt / y.toInt := by
    rw [Int64.toInt_div, Int.tdiv_eq_ediv_of_nonneg hx]
    exact bm64 (by omega) (by omega)
  have e2 : (x / y * y).toInt = x.toInt / y.toInt * y.toInt := by
    rw [Int64.toInt_mul, e1]
    exact bm64 (by omega) (by omega)
  rw [Int64.toInt_sub, e2, bm64 (by omega) (by omega)]
  omega
def gcdN (a b : Int64) : Nat := Nat.gcd a.toInt.natAbs b.toInt.natAbs
def gcdL (a b : Int64) : Int64 := Int64.ofInt (gcdN a b)
theorem i64_of {x : Int64} {n : Nat} (h : x.toInt = n) : x = Int64.ofInt n := by rw [← h, Int64.ofInt_toInt]
theorem gcd_st (X Y : Nat) : Nat.gcd Y (X % Y) = Nat.gcd X Y := by
  rw [Nat.gcd_comm X Y, Nat.gcd_rec Y X, Nat.gcd_comm]
theorem cfL_k : ∀ (k : Nat) (x y : Int64) (X Y : Nat), x.toInt = X → y.toInt = Y → Y ≤ X → X * Y < 2 ^ k → (cfL k x y).toInt = (Nat.gcd X Y : Nat)
  | 0, x, y, X, Y, hx, hy, hle, hp => by
    have h0 : Y = 0 := by
      rcases Nat.eq_zero_or_pos Y with h | h
      · exact h
      · have := Nat.mul_le_mul (show 1 ≤ X by omega) (show 1 ≤ Y from h)
        omega
    show x.toInt = _
    rw [h0, Nat.gcd_zero_right, hx]
  | k + 1, x, y, X, Y, hx, hy, hle, hp => by
    unfold cfL
    by_cases c : y = 0
    · rw [if_pos c]
      have h0 : Y = 0 := by
        rw [c, i64_20.2.2] at hy
        omega
      rw [h0, Nat.gcd_zero_right, hx]
    · rw [if_neg c]
      have h1 : 0 < Y := Nat.pos_of_ne_zero (fun e => c (by apply Int64.toInt_inj.mp; rw [hy, e, i64_20.2.2]; rfl))
      have hr : (x - x / y * y).toInt = ((X % Y : Nat) : Int) := by
        rw [rem_I (by omega) (by omega), hx, hy]
        rfl
      have hm := Nat.mod_lt X h1
      have hd := Nat.div_add_mod X Y
      have hq : 1 ≤ X / Y := (Nat.le_div_iff_mul_le h1).mpr (by omega)
      have hq2 : Y * 1 ≤ Y * (X / Y) := Nat.mul_le_mul_left Y hq
      have h2 : Y * (2 * (X % Y)) ≤ Y * X := Nat.mul_le_mul_left Y (by omega)
      rw [Nat.mul_left_comm, Nat.mul_comm Y X] at h2
      rw [cfL_k k y _ Y (X % Y) hy hr (by omega) (by rw [Nat.pow_succ] at hp; omega), gcd_st]
theorem cfL_100 {x y : Int64} {X Y : Nat} (hx : x.toInt = X) (hy : y.toInt = Y) (hp : X * Y < 2 ^ 99) : (cfL 100 x y).toInt = (Nat.gcd X Y : Nat) := by
  by_cases h : Y ≤ X
  · exact cfL_k 100 x y X Y hx hy h (by rw [Nat.pow_succ]; omega)
  · show (cfL (99 + 1) x y).toInt = _
    unfold cfL
    rw [if_neg (fun e => by rw [e, i64_20.2.2] at hy; omega)]
    have hr : (x - x / y * y).toInt = ((X % Y : Nat) : Int) := by
      rw [rem_I (by omega) (by omega), hx, hy]
      rfl
    have hm := Nat.mod_lt X (show 0 < Y by omega)
    have he : X % Y = X := Nat.mod_eq_of_lt (by omega)
    rw [cfL_k 99 y _ Y (X % Y) hy hr (by omega) (by rw [he, Nat.mul_comm]; exact hp), gcd_st]
theorem absL_I {x : Int64} (h : -4611686018427387904 ≤ x.toInt) : (absL x).toInt = x.toInt.natAbs := by
  have b := i64_b x
  unfold absL
  have e : (0 < x) ↔ 0 < x.toInt := by rw [Int64.lt_iff_toInt_lt, i64_20.2.2]
  by_cases c : 0 < x.toInt
  · rw [if_pos (e.mpr c)]
    omega
  · rw [if_neg (mt e.mp c), Int64.toInt_neg, bm64 (by omega) (by omega)]
    omega
theorem gcdN_b {t b : Int64} (hb : 0 < b.toInt) : 1 ≤ gcdN t b ∧ (gcdN t b : Int) ≤ b.toInt := by
  have h1 := Nat.gcd_pos_of_pos_right t.toInt.natAbs (show 0 < b.toInt.natAbs by omega)
  have h2 := Nat.gcd_le_right t.toInt.natAbs (show 0 < b.toInt.natAbs by omega)
  unfold gcdN
  omega
theorem gcdL_I {t b : Int64} (hb : 0 < b.toInt) : (gcdL t b).toInt = gcdN t b := by
  have h := gcdN_b (t := t) hb
  have q := i64_b b
  unfold gcdL
  rw [Int64.toInt_ofInt]
  exact bm64 (by omega) (by omega)
theorem gcdL_ne {t b : Int64} (hb : 0 < b.toInt) : ¬ gcdL t b = 0 := fun e => by
  have h := gcdN_b (t := t) hb
  have q := gcdL_I (t := t) hb
  rw [e, i64_20.2.2] at q
  omega
theorem low_gcd {t b : Int64} {f : Int32} (hb : 0 < b.toInt) (ht : -4611686018427387904 ≤ t.toInt) (hp : t.toInt.natAbs * b.toInt.natAbs < 2 ^ 99) : lowS t b f = if f = 0 then t / gcdL t b else b / gcdL t b := by
  have e : (cfL 100 (absL t) b).toInt = gcdN t b := cfL_100 (absL_I ht) (by omega) hp
  have e2 : cfL 100 (absL t) b = gcdL t b := i64_of e
  have h := gcdN_b (t := t) hb
  unfold lowS
  rw [if_pos (by rw [Int64.lt_iff_toInt_lt, e, i64_20.2.2]; omega), e2]
/-! sums over both -/
def rS (u : Nat → Int64) : Nat → Int64
  | 0 => 0
  | k + 1 => rS u k + u k
def dS (t : Nat → Nat → Int64) (n : Nat) : Nat → Int64
  | 0 => 0
  | i + 1 => dS t n i + rS (t i) n
theorem rS_congr {u v : Nat → Int64} : ∀ n, (∀ k, k < n → u k = v k) → rS u n = rS v n
  | 0, _ => rfl
  | n + 1, h => by
    unfold rS
    rw [rS_congr n (fun k hk => h k (by omega)), h n (by omega)]
theorem dS_congr {t u : Nat → Nat → Int64} {n : Nat} : ∀ m, (∀ i k, i < m → k < n → t i k = u i k) → dS t n m = dS u n m
  | 0, _ => rfl
  | m + 1, h => by
    unfold dS
    rw [dS_congr m (fun i k hi hk => h i k (by omega) hk), rS_congr n (fun k hk => h m k (by omega) hk)]
theorem rS_add {u v : Nat → Int64} : ∀ n, rS (fun k => u k + v k) n = rS u n + rS v n
  | 0 => by show (0 : Int64) = 0 + 0; decide
  | n + 1 => by
    show rS (fun k => u k + v k) n + (u n + v n) = (rS u n + u n) + (rS v n + v n)
    rw [rS_add n, Int64.add_assoc, Int64.add_assoc, ← Int64.add_assoc (rS v n) (u n), Int64.add_comm (rS v n) (u n), Int64.add_assoc]
theorem rS_0 : ∀ n, rS (fun _ => 0) n = 0
  | 0 => rfl
  | n + 1 => by
    show rS (fun _ => 0) n + 0 = 0
    rw [rS_0 n]; rfl
theorem dS_swap {t : Nat → Nat → Int64} {n : Nat} : ∀ m, dS t n m = rS (fun k => rS (fun i => t i k) m) n
  | 0 => (rS_0 n).symm
  | m + 1 => by
    show dS t n m + rS (t m) n = rS (fun k => rS (fun i => t i k) m + t m k) n
    rw [rS_add (u := fun k => rS (fun i => t i k) m) (v := t m), dS_swap m]
theorem dS_rS {t : Nat → Nat → Int64} {n : Nat} : ∀ m, dS t n m = rS (fun i => rS (t i) n) m
  | 0 => rfl
  | m + 1 => by
    show dS t n m + rS (t m) n = rS (fun i => rS (t i) n) m + rS (t m) n
    rw [dS_rS m]
theorem rS_w {P : Nat → Int32} {Y : Nat → Int64} {x : Int64} {i : Nat} : ∀ n, x * wsum P Y i n = rS (fun k => x * Y k * (P (i * 4 + k)).toInt64) n
  | 0 => Int64.mul_zero
  | n + 1 => by
    show x * (wsum P Y i n + Y n * _) = rS _ n + x * Y n * _
    rw [Int64.mul_add, rS_w n, Int64.mul_assoc]
theorem msum_rS {P : Nat → Int32} {X Y : Nat → Int64} : ∀ m, msum P X Y m = rS (fun i => X i * wsum P Y i 4) m
  | 0 => rfl
  | m + 1 => by
    show msum P X Y m + X m * wsum P Y m 4 = _
    rw [msum_rS m]
    rfl
theorem wsum_n {P : Nat → Int32} {Y : Nat → Int64} {n : Nat} (hn : n ≤ 4) (h : ∀ j, n ≤ j → j < 4 → Y j = 0) (i : Nat) : wsum P Y i 4 = wsum P Y i n := by
  have := wsum_z (P := P) (X := Y) (o := i) (n := n) (4 - n) (fun j h1 h2 => h j h1 (by omega))
  rw [show n + (4 - n) = 4 from by omega] at this
  exact this
theorem ms_row {P : Nat → Int32} {X Y : Nat → Int64} {m n : Nat} (hn : n ≤ 4) (h : ∀ j, n ≤ j → j < 4 → Y j = 0) : msum P X Y m = dS (fun i k => X i * Y k * (P (i * 4 + k)).toInt64) n m := by
  rw [msum_rS, dS_rS]
  exact rS_congr m (fun i hi => by rw [wsum_n hn h i, rS_w])
theorem ms_col {P : Nat → Int32} {X Y : Nat → Int64} {m n : Nat} (hn : m ≤ 4) (h : ∀ j, m ≤ j → j < 4 → X j = 0) : msum P Y X n = dS (fun i k => X i * Y k * (P (k * 4 + i)).toInt64) n m := by
  rw [msum_rS, dS_swap]
  exact rS_congr n (fun i hi => by rw [wsum_n hn h i, rS_w]; exact rS_congr m (fun j hj => by rw [Int64.mul_comm (Y i) (X j)]))
/-! bounds -/
theorem mul_I {x y : Int64} (h1 : -9223372036854775808 ≤ x.toInt * y.toInt) (h2 : x.toInt * y.toInt < 9223372036854775808) : (x * y).toInt = x.toInt * y.toInt := by
  rw [Int64.toInt_mul]
  exact bm64 h1 h2
theorem pr_b {a b C : Int} (h0 : 0 ≤ a) (h1 : a ≤ C) (h2 : -20 ≤ b ∧ b ≤ 20) : -(20 * C) ≤ a * b ∧ a * b ≤ 20 * C := by
  have u1 := Int.mul_nonneg h0 (show 0 ≤ b + 20 by omega)
  have u2 := Int.mul_nonneg h0 (show 0 ≤ 20 - b by omega)
  rw [Int.mul_add] at u1
  rw [Int.mul_sub] at u2
  omega
def rSI (u : Nat → Int) : Nat → Int
  | 0 => 0
  | k + 1 => rSI u k + u k
def dSI (t : Nat → Nat → Int) (n : Nat) : Nat → Int
  | 0 => 0
  | i + 1 => dSI t n i + rSI (t i) n
theorem rS_I {u : Nat → Int64} {K : Int} (hK : 0 ≤ K) (h16 : 16 * K < 9223372036854775808) : ∀ n, n ≤ 4 → (∀ k, k < n → -K ≤ (u k).toInt ∧ (u k).toInt ≤ K) → (rS u n).toInt = rSI (fun k => (u k).toInt) n ∧ -(n * K) ≤ (rS u n).toInt ∧ (rS u n).toInt ≤ n * K
  | 0, _, _ => by
    show (0 : Int64).toInt = 0 ∧ _
    rw [show (rS u 0).toInt = 0 from i64_20.2.2]
    refine ⟨i64_20.2.2, ?_, ?_⟩ <;> simp
  | n + 1, hn, h => by
    obtain ⟨a1, a2, a3⟩ := rS_I hK h16 n (by omega) (fun k hk => h k (by omega))
    have b := h n (by omega)
    have hm : (n : Int) * K ≤ 4 * K := Int.mul_le_mul_of_nonneg_right (by omega) hK
    have e : (rS u (n + 1)).toInt = (rS u n).toInt + (u n).toInt := by
      show (rS u n + u n).toInt = _
      rw [Int64.toInt_add]
      exact bm64 (by omega) (by omega)
    have e2 : ((n + 1 : Nat) : Int) * K = n * K + K := by
      rw [Int.natCast_add, Int.add_mul]; simp
    rw [e, e2]
    refine ⟨?_, by omega, by omega⟩
    show _ = rSI _ n + _
    rw [a1]
theorem dS_I {t : Nat → Nat → Int64} {K : Int} (hK : 0 ≤ K) (h16 : 16 * K < 9223372036854775808) {n : Nat} (hn : n ≤ 4) : ∀ m, m ≤ 4 → (∀ i k, i < m → k < n → -K ≤ (t i k).toInt ∧ (t i k).toInt ≤ K) → (dS t n m).toInt = dSI (fun i k => (t i k).toInt) n m ∧ -(m * (4 * K)) ≤ (dS t n m).toInt ∧ (dS t n m).toInt ≤ m * (4 * K)
  | 0, _, _ => by
    show (0 : Int64).toInt = 0 ∧ _
    rw [show (dS t n 0).toInt = 0 from i64_20.2.2]
    refine ⟨i64_20.2.2, ?_, ?_⟩ <;> simp
  | m + 1, hm, h => by
    obtain ⟨a1, a2, a3⟩ := dS_I hK h16 hn m (by omega) (fun i k hi hk => h i k (by omega) hk)
    obtain ⟨b1, b2, b3⟩ := rS_I (u := t m) hK h16 n hn (fun k hk => h m k (by omega) hk)
    have hq : (m : Int) * (4 * K) ≤ 3 * (4 * K) := Int.mul_le_mul_of_nonneg_right (by omega) (by omega)
    have hq2 : (n : Int) * K ≤ 4 * K := Int.mul_le_mul_of_nonneg_right (by omega) hK
    have e : (dS t n (m + 1)).toInt = (dS t n m).toInt + (rS (t m) n).toInt := by
      show (dS t n m + rS (t m) n).toInt = _
      rw [Int64.toInt_add]
      exact bm64 (by omega) (by omega)
    have e2 : ((m + 1 : Nat) : Int) * (4 * K) = m * (4 * K) + 4 * K := by
      rw [Int.natCast_add, Int.add_mul]; simp
    rw [e, e2]
    refine ⟨?_, by omega, by omega⟩
    show _ = dSI _ n m + rSI _ n
    rw [a1, b1]
/-- a term of a mean -/
theorem tm_I {x y : Int64} {p : Int32} {A B : Int} (hx : 0 ≤ x.toInt ∧ x.toInt ≤ A) (hy : 0 ≤ y.toInt ∧ y.toInt ≤ B) (hp : -20 ≤ p.toInt ∧ p.toInt ≤ 20) (hAB : 320 * (A * B) < 4611686018427387904) : (x * y * p.toInt64).toInt = x.toInt * y.toInt * p.toInt ∧ -(20 * (A * B)) ≤ (x * y * p.toInt64).toInt ∧ (x * y * p.toInt64).toInt ≤ 20 * (A * B) := by
  have h1 : 0 ≤ x.toInt * y.toInt := Int.mul_nonneg hx.1 hy.1
  have h2 : x.toInt * y.toInt ≤ A * B := Int.mul_le_mul hx.2 hy.2 hy.1 (by omega)
  have e : (x * y).toInt = x.toInt * y.toInt := mul_I (by omega) (by omega)
  have h3 := pr_b h1 h2 hp
  have e2 : (x * y * p.toInt64).toInt = x.toInt * y.toInt * p.toInt := by
    rw [mul_I, e, Int32.toInt_toInt64]
    · rw [e, Int32.toInt_toInt64]; omega
    · rw [e, Int32.toInt_toInt64]; omega
  rw [e2]
  exact ⟨rfl, h3⟩
/-- the sum of a mean, as an integer, and how great it is at most -/
theorem dm_I {X Y : Nat → Int64} {p : Nat → Nat → Int32} {A B : Int} {m n : Nat} (hA : 0 ≤ A) (hB : 0 ≤ B) (hm : m ≤ 4) (hn : n ≤ 4) (hx : ∀ i, i < 4 → 0 ≤ (X i).toInt ∧ (X i).toInt ≤ A) (hy : ∀ i, i < 4 → 0 ≤ (Y i).toInt ∧ (Y i).toInt ≤ B) (hp : ∀ i k, i < 4 → k < 4 → -20 ≤ (p i k).toInt ∧ (p i k).toInt ≤ 20) (hAB : 320 * (A * B) < 4611686018427387904) : (dS (fun i k => X i * Y k * (p i k).toInt64) n m).toInt = dSI (fun i k => (X i).toInt * (Y k).toInt * (p i k).toInt) n m ∧ -(320 * (A * B)) ≤ (dS (fun i k => X i * Y k * (p i k).toInt64) n m).toInt ∧ (dS (fun i k => X i * Y k * (p i k).toInt64) n m).toInt ≤ 320 * (A * B) := by
  have hC : 0 ≤ A * B := Int.mul_nonneg hA hB
  obtain ⟨a1, a2, a3⟩ := dS_I (t := fun i k => X i * Y k * (p i k).toInt64) (K := 20 * (A * B)) (by omega) (by omega) hn m hm (fun i k hi hk => (tm_I (hx i (by omega)) (hy k (by omega)) (hp i k (by omega) (by omega)) hAB).2)
  have hq : (m : Int) * (4 * (20 * (A * B))) ≤ 4 * (4 * (20 * (A * B))) := Int.mul_le_mul_of_nonneg_right (by omega) (by omega)
  refine ⟨?_, by omega, by omega⟩
  rw [a1]
  have gr : ∀ {u v : Nat → Int} (n : Nat), (∀ k, k < n → u k = v k) → rSI u n = rSI v n := fun {u v} n h => by
    induction n with
    | zero => rfl
    | succ n ih => unfold rSI; rw [ih (fun k hk => h k (by omega)), h n (by omega)]
  have gd : ∀ {u v : Nat → Nat → Int} (m : Nat), (∀ i k, i < m → k < n → u i k = v i k) → dSI u n m = dSI v n m := fun {u v} m h => by
    induction m with
    | zero => rfl
    | succ m ih => unfold dSI; rw [ih (fun i k hi hk => h i k (by omega) hk), gr n (fun k hk => h m k (by omega) hk)]
  exact gd m (fun i k hi hk => (tm_I (hx i (by omega)) (hy k (by omega)) (hp i k (by omega) (by omega)) hAB).1)
