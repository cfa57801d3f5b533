/-! ===== greatest and least, orders, common factors ===== -/
/-- the least, the greatest of f 0 .. f k -/
def mnF (f : Nat → Int32) : Nat → Int32
  | 0 => f 0
  | k + 1 => if f (k + 1) < mnF f k then f (k + 1) else mnF f k
def mxF (f : Nat → Int32) : Nat → Int32
  | 0 => f 0
  | k + 1 => if mxF f k < f (k + 1) then f (k + 1) else mxF f k
def leastF (P : Nat → Int32) (n own : Nat) : Int32 := mnF (fun k => P (own * 4 + k)) (n - 1)
def leastA (P : Nat → Int32) (ch k : Nat) : Int32 := mnF (fun o => P (o * 4 + k)) (ch - 1)
def mostA (P : Nat → Int32) (ch k : Nat) : Int32 := mxF (fun o => P (o * 4 + k)) (ch - 1)
def sureP (P : Nat → Int32) (ch n : Nat) : Int32 := mxF (leastF P n) (ch - 1)
def holdP (P : Nat → Int32) (ch n : Nat) : Int32 := mnF (mostA P ch) (n - 1)
/-- the farthest of the first k pays from 0 -/
def farL (P : Nat → Int32) : Nat → Int32
  | 0 => 0
  | k + 1 => if farL P k < (if 0 ≤ P k then P k else 0 - P k) then (if 0 ≤ P k then P k else 0 - P k) else farL P k
def zeroB (P P' : Nat → Int32) (a b : Nat) : Bool := (List.range a).all fun i => (List.range b).all fun k => decide (P (i * 4 + k) + P' (k * 4 + i) = 0)
theorem zeroB_iff {P P' : Nat → Int32} {a b : Nat} : zeroB P P' a b = true ↔ ∀ i, i < a → ∀ k, k < b → P (i * 4 + k) + P' (k * 4 + i) = 0 := by
  simp [zeroB, List.all_eq_true]
def likeB (P P' : Nat → Int32) (a b : Nat) : Bool := decide (a = b) && (List.range 16).all fun j => decide (P j = P' j)
theorem likeB_iff {P P' : Nat → Int32} {a b : Nat} : likeB P P' a b = true ↔ a = b ∧ ∀ j, j < 16 → P j = P' j := by
  simp [likeB, List.all_eq_true]
/-- below 0 if the shares X by t stand ahead of Y by u -/
def ordM (X : Nat → Int64) (t : Int64) (Y : Nat → Int64) (u : Int64) : Int32 := match fst4 (fun k => !decide (X k * u = Y k * t)) with
  | none => 0
  | some k => if Y k * t < X k * u then -1 else 1
def fitB (u1 n1 u2 n2 : Nat) : Bool := decide (u1 &&& (15 ^^^ n2) = 0) && decide (u2 &&& (15 ^^^ n1) = 0)
def isW (q : Int32) : Bool := decide (q = 0) || decide (q = 1)
/-- the common factor, by k steps -/
def cfL : Nat → Int64 → Int64 → Int64
  | 0, a, _ => a
  | k + 1, a, b => if b = 0 then a else cfL k b (a - a / b * b)
def absL (x : Int64) : Int64 := if 0 < x then x else -x
def lowS (t b : Int64) (w : Int32) : Int64 := if 0 < cfL 100 (absL t) b then (if w = 0 then t / cfL 100 (absL t) b else b / cfL 100 (absL t) b) else 0
def popc (u : Nat) : Nat := u % 2 + u / 2 % 2 + u / 4 % 2 + u / 8 % 2
set_option maxHeartbeats 4000000 in
set_option maxRecDepth 100000 in
theorem c_X3_leastFor (l : Launch) {G : gG} {T : gTy} {I : gI} {J : gJ} {Q : gR} {O : gO} {H : Heap} (hP : gP G T I J Q O H) {b ch own nn : Nat} (hpl : isPl T O b ch) (ho : own < 4) (hn : 1 ≤ nn ∧ nn ≤ 4) : Met l yX3_leastFor (gw yX3_leastFor cX3_leastFor 5 (some (.int))) ({ frames := 1, cells := 0, slots := 0, locals := 24 } : Room) (gPc G H [.ref b, .int (nI own), .int (nI nn)]) (gQp (some (.int (leastF (I (b + 9)) nn own)))) 0 0 (fun _ => False) := by
  refine g_met [(0, .ref b), (1, .int (nI own)), (2, .int (nI nn))] (by decide) rfl (by exact Nat.le_of_ble_eq_true rfl) ?_
  intro p e s m below meth c hC hs ls hl
  have hx := hC.1.1
  have hb := hC.1.2.1
  have hpl_lo := hpl.2.2.2.2.2.2.2.2.1
  have hpl_hi := hpl.2.2.2.2.2.2.2.2.2
  refine lv_aload_n hx hb dX3_leastFor_0 rfl (lv_at hl 0 rfl) ?_
  refine lv_iload_n hx hb dX3_leastFor_1 rfl (lv_at hl 1 rfl) ?_
  refine lv_iconst (v := nI 0) hx hb dX3_leastFor_2 (by decide) ?_
  refine g_cp (g_rV (As := [.int (nI own), .int (nI 0)]) hC hP (c_X3_payFor l hP (b := b) (ch := ch) (i := own) (k := 0) (by first | assumption | omega) (by first | assumption | omega) (by first | assumption | omega)) hpl.1 rfl ⟨q1_170, q1_216, q1_168, q1_169, q1_2⟩ dd_X3_payFor ⟨Nat.le_of_ble_eq_true rfl, Nat.le_of_ble_eq_true rfl, rfl, rfl⟩ hl.1 rfl (Nat.le_of_ble_eq_true rfl) dX3_leastFor_3 ⟨Nat.le_of_ble_eq_true rfl, Nat.le_of_ble_eq_true rfl⟩) ?_
  refine W.eq (g2 := F0 m 6 ls [.int (I (b + 9) (own * 4 + 0))]) rfl ?_
  refine lv_istore_n (lv' := [(3, .int (I (b + 9) (own * 4 + 0))), (0, .ref b), (1, .int (nI own)), (2, .int (nI nn))]) hx hb dX3_leastFor_6 rfl hl (by decide) rfl (fun ls hl => ?_)
  refine lv_iconst (v := nI 1) hx hb dX3_leastFor_7 (by decide) ?_
  refine lv_istore (lv' := [(4, .int (nI 1)), (3, .int (I (b + 9) (own * 4 + 0))), (0, .ref b), (1, .int (nI own)), (2, .int (nI nn))]) hx hb dX3_leastFor_8 hl (by decide) rfl (fun ls hl => ?_)
  have L10 : ∀ (n10 : Nat) (i : Nat) (v : Int32), 5 ≤ n10 + i → (1 ≤ i ∧ i ≤ nn) → (v = mnF (fun k => I (b + 9) (own * 4 + k)) (i - 1)) → ∀ ls : Array Slot, lv_has ls 5 [(0, .ref b), (1, .int (nI own)), (2, .int (nI nn)), (3, .int v), (4, .int (nI i))] → W p l e ({ frames := 1, cells := 0, slots := 0, locals := 24 } : Room) s m [.ref b, .int (nI own), .int (nI nn)].toArray below meth c H [] 0 0 (MQ below (gQp (some (.int (leastF (I (b + 9)) nn own)))) [.ref b, .int (nI own), .int (nI nn)].toArray s 0 0 (fun _ => False)) (F0 m 10 ls []) := by
    intro n10
    induction n10 with
    | zero => intro i v hn10 hi h1; exact absurd hn10 (by omega)
    | succ n10 ih10 =>
      intro i v hn10 hi h1 ls hl
      refine lv_iload hx hb dX3_leastFor_10 (lv_at hl 4 rfl) ?_
      refine lv_iload_n hx hb dX3_leastFor_12 rfl (lv_at hl 2 rfl) ?_
      refine lv_icmp_ge (tgt := 34) hx hb dX3_leastFor_13 (by decide) (fun c13 => ?_) (fun c13 => ?_)
      · have c13 := (nI_leI (by omega) (by omega)).mp c13
        refine lv_iload_n hx hb dX3_leastFor_34 rfl (lv_at hl 3 rfl) ?_
        refine g_reti hC hs ?_ dX3_leastFor_35
        rw [h1, show i = nn from by omega]; rfl
      · have c13 := mt (nI_leI (by omega) (by omega)).mpr c13
        refine lv_iload_n hx hb dX3_leastFor_16 rfl (lv_at hl 3 rfl) ?_
        refine lv_aload_n hx hb dX3_leastFor_17 rfl (lv_at hl 0 rfl) ?_
        refine lv_iload_n hx hb dX3_leastFor_18 rfl (lv_at hl 1 rfl) ?_
        refine lv_iload hx hb dX3_leastFor_19 (lv_at hl 4 rfl) ?_
        refine g_cp (g_rV (As := [.int (nI own), .int (nI i)]) hC hP (c_X3_payFor l hP (b := b) (ch := ch) (i := own) (k := i) (by first | assumption | omega) (by first | assumption | omega) (by first | assumption | omega)) hpl.1 rfl ⟨q1_170, q1_216, q1_168, q1_169, q1_2⟩ dd_X3_payFor ⟨Nat.le_of_ble_eq_true rfl, Nat.le_of_ble_eq_true rfl, rfl, rfl⟩ hl.1 rfl (Nat.le_of_ble_eq_true rfl) dX3_leastFor_21 ⟨Nat.le_of_ble_eq_true rfl, Nat.le_of_ble_eq_true rfl⟩) ?_
        refine W.eq (g2 := F0 m 24 ls [.int (I (b + 9) (own * 4 + i)), .int v]) rfl ?_
        refine va_mmin hx hb (hC.1.2.2.1.trans hl.1.symm) hC.1.2.2.2.1 (hC.1.2.2.2.2 _ q2_59) (hC.1.2.2.2.2 _ q2_60) (hC.1.2.2.2.2 _ q1_7) (hC.1.2.2.2.2 _ q2_61) (Nat.le_of_ble_eq_true rfl) (Nat.le_of_ble_eq_true rfl) (Nat.le_of_ble_eq_true rfl) (Nat.le_of_ble_eq_true rfl) dX3_leastFor_24 ?_
        refine lv_istore_n (lv' := [(3, .int (if (I (b + 9) (own * 4 + i)) < v then I (b + 9) (own * 4 + i) else v)), (0, .ref b), (1, .int (nI own)), (2, .int (nI nn)), (4, .int (nI i))]) hx hb dX3_leastFor_27 rfl hl (by decide) rfl (fun ls hl => ?_)
        refine lv_iinc (v := nI (i + 1)) (lv' := [(4, .int (nI (i + 1))), (3, .int (if (I (b + 9) (own * 4 + i)) < v then I (b + 9) (own * 4 + i) else v)), (0, .ref b), (1, .int (nI own)), (2, .int (nI nn))]) hx hb dX3_leastFor_28 hl (k := 4) rfl (nI_inc _) (by decide) rfl (fun ls hl => ?_)
        refine lv_goto (tgt := 10) hx hb dX3_leastFor_31 (by decide) ?_
        exact ih10 (i + 1) (if (I (b + 9) (own * 4 + i)) < v then I (b + 9) (own * 4 + i) else v) (by omega) (by omega) (by rw [Nat.add_sub_cancel, show i = (i - 1) + 1 from by omega, mnF, ← h1, show (i - 1) + 1 = i from by omega]) ls (lv_sub hl [2, 3, 4, 1, 0] rfl)
  exact L10 5 1 (I (b + 9) (own * 4 + 0)) (by omega) (by omega) rfl ls (lv_sub hl [2, 3, 4, 1, 0] rfl)
set_option maxHeartbeats 4000000 in
set_option maxRecDepth 100000 in
theorem c_X3_leastAgainst (l : Launch) {G : gG} {T : gTy} {I : gI} {J : gJ} {Q : gR} {O : gO} {H : Heap} (hP : gP G T I J Q O H) {b ch k : Nat} (hpl : isPl T O b ch) (hk : k < 4) : Met l yX3_leastAgainst (gw yX3_leastAgainst cX3_leastAgainst 4 (some (.int))) ({ frames := 1, cells := 0, slots := 0, locals := 24 } : Room) (gPc G H [.ref b, .int (nI k)]) (gQp (some (.int (leastA (I (b + 9)) ch k)))) 0 0 (fun _ => False) := by
  refine g_met [(0, .ref b), (1, .int (nI k))] (by decide) rfl (by exact Nat.le_of_ble_eq_true rfl) ?_
  intro p e s m below meth c hC hs ls hl
  have hx := hC.1.1
  have hb := hC.1.2.1
  have hpl_lo := hpl.2.2.2.2.2.2.2.2.1
  have hpl_hi := hpl.2.2.2.2.2.2.2.2.2
  refine lv_aload_n hx hb dX3_leastAgainst_0 rfl (lv_at hl 0 rfl) ?_
  refine lv_iconst (v := nI 0) hx hb dX3_leastAgainst_1 (by decide) ?_
  refine lv_iload_n hx hb dX3_leastAgainst_2 rfl (lv_at hl 1 rfl) ?_
  refine g_cp (g_rV (As := [.int (nI 0), .int (nI k)]) hC hP (c_X3_payFor l hP (b := b) (ch := ch) (i := 0) (k := k) (by first | assumption | omega) (by first | assumption | omega) (by first | assumption | omega)) hpl.1 rfl ⟨q1_170, q1_216, q1_168, q1_169, q1_2⟩ dd_X3_payFor ⟨Nat.le_of_ble_eq_true rfl, Nat.le_of_ble_eq_true rfl, rfl, rfl⟩ hl.1 rfl (Nat.le_of_ble_eq_true rfl) dX3_leastAgainst_3 ⟨Nat.le_of_ble_eq_true rfl, Nat.le_of_ble_eq_true rfl⟩) ?_
  refine W.eq (g2 := F0 m 6 ls [.int (I (b + 9) (0 * 4 + k))]) rfl ?_
  refine lv_istore_n (lv' := [(2, .int (I (b + 9) (0 * 4 + k))), (0, .ref b), (1, .int (nI k))]) hx hb dX3_leastAgainst_6 rfl hl (by decide) rfl (fun ls hl => ?_)
  refine lv_iconst (v := nI 1) hx hb dX3_leastAgainst_7 (by decide) ?_
  refine lv_istore_n (lv' := [(3, .int (nI 1)), (2, .int (I (b + 9) (0 * 4 + k))), (0, .ref b), (1, .int (nI k))]) hx hb dX3_leastAgainst_8 rfl hl (by decide) rfl (fun ls hl => ?_)
  have L9 : ∀ (n9 : Nat) (i : Nat) (v : Int32), 5 ≤ n9 + i → (1 ≤ i ∧ i ≤ ch) → (v = mnF (fun o => I (b + 9) (o * 4 + k)) (i - 1)) → ∀ ls : Array Slot, lv_has ls 4 [(0, .ref b), (1, .int (nI k)), (2, .int v), (3, .int (nI i))] → W p l e ({ frames := 1, cells := 0, slots := 0, locals := 24 } : Room) s m [.ref b, .int (nI k)].toArray below meth c H [] 0 0 (MQ below (gQp (some (.int (leastA (I (b + 9)) ch k)))) [.ref b, .int (nI k)].toArray s 0 0 (fun _ => False)) (F0 m 9 ls []) := by
    intro n9
    induction n9 with
    | zero => intro i v hn9 hi h1; exact absurd hn9 (by omega)
    | succ n9 ih9 =>
      intro i v hn9 hi h1 ls hl
      refine lv_iload_n hx hb dX3_leastAgainst_9 rfl (lv_at hl 3 rfl) ?_
      refine lv_aload_n hx hb dX3_leastAgainst_10 rfl (lv_at hl 0 rfl) ?_
      refine g_get hC hP hpl.1 rfl inX3 0 (by decide) q1_77 hpl.2.1 dX3_leastAgainst_11 ?_
      refine lv_icmp_ge (tgt := 34) hx hb dX3_leastAgainst_14 (by decide) (fun c14 => ?_) (fun c14 => ?_)
      · have c14 := (nI_leI (by omega) (by omega)).mp c14
        refine lv_iload_n hx hb dX3_leastAgainst_34 rfl (lv_at hl 2 rfl) ?_
        refine g_reti hC hs ?_ dX3_leastAgainst_35
        rw [h1, show i = ch from by omega]; rfl
      · have c14 := mt (nI_leI (by omega) (by omega)).mpr c14
        refine lv_iload_n hx hb dX3_leastAgainst_17 rfl (lv_at hl 2 rfl) ?_
        refine lv_aload_n hx hb dX3_leastAgainst_18 rfl (lv_at hl 0 rfl) ?_
        refine lv_iload_n hx hb dX3_leastAgainst_19 rfl (lv_at hl 3 rfl) ?_
        refine lv_iload_n hx hb dX3_leastAgainst_20 rfl (lv_at hl 1 rfl) ?_
        refine g_cp (g_rV (As := [.int (nI i), .int (nI k)]) hC hP (c_X3_payFor l hP (b := b) (ch := ch) (i := i) (k := k) (by first | assumption | omega) (by first | assumption | omega) (by first | assumption | omega)) hpl.1 rfl ⟨q1_170, q1_216, q1_168, q1_169, q1_2⟩ dd_X3_payFor ⟨Nat.le_of_ble_eq_true rfl, Nat.le_of_ble_eq_true rfl, rfl, rfl⟩ hl.1 rfl (Nat.le_of_ble_eq_true rfl) dX3_leastAgainst_21 ⟨Nat.le_of_ble_eq_true rfl, Nat.le_of_ble_eq_true rfl⟩) ?_
        refine W.eq (g2 := F0 m 24 ls [.int (I (b + 9) (i * 4 + k)), .int v]) rfl ?_
        refine va_mmin hx hb (hC.1.2.2.1.trans hl.1.symm) hC.1.2.2.2.1 (hC.1.2.2.2.2 _ q2_59) (hC.1.2.2.2.2 _ q2_60) (hC.1.2.2.2.2 _ q1_7) (hC.1.2.2.2.2 _ q2_61) (Nat.le_of_ble_eq_true rfl) (Nat.le_of_ble_eq_true rfl) (Nat.le_of_ble_eq_true rfl) (Nat.le_of_ble_eq_true rfl) dX3_leastAgainst_24 ?_
        refine lv_istore_n (lv' := [(2, .int (if (I (b + 9) (i * 4 + k)) < v then I (b + 9) (i * 4 + k) else v)), (0, .ref b), (1, .int (nI k)), (3, .int (nI i))]) hx hb dX3_leastAgainst_27 rfl hl (by decide) rfl (fun ls hl => ?_)
        refine lv_iinc (v := nI (i + 1)) (lv' := [(3, .int (nI (i + 1))), (2, .int (if (I (b + 9) (i * 4 + k)) < v then I (b + 9) (i * 4 + k) else v)), (0, .ref b), (1, .int (nI k))]) hx hb dX3_leastAgainst_28 hl (k := 3) rfl (nI_inc _) (by decide) rfl (fun ls hl => ?_)
        refine lv_goto (tgt := 9) hx hb dX3_leastAgainst_31 (by decide) ?_
        exact ih9 (i + 1) (if (I (b + 9) (i * 4 + k)) < v then I (b + 9) (i * 4 + k) else v) (by omega) (by omega) (by rw [Nat.add_sub_cancel, show i = (i - 1) + 1 from by omega, mnF, ← h1, show (i - 1) + 1 = i from by omega]) ls (lv_sub hl [2, 3, 1, 0] rfl)
  exact L9 5 1 (I (b + 9) (0 * 4 + k)) (by omega) (by omega) rfl ls (lv_sub hl [2, 3, 1, 0] rfl)
set_option maxHeartbeats 4000000 in
set_option maxRecDepth 100000 in
theorem c_X3_mostAgainst (l : Launch) {G : gG} {T : gTy} {I : gI} {J : gJ} {Q : gR} {O : gO} {H : Heap} (hP : gP G T I J Q O H) {b ch k : Nat} (hpl : isPl T O b ch) (hk : k < 4) : Met l yX3_mostAgainst (gw yX3_mostAgainst cX3_mostAgainst 4 (some (.int))) ({ frames := 1, cells := 0, slots := 0, locals := 24 } : Room) (gPc G H [.ref b, .int (nI k)]) (gQp (some (.int (mostA (I (b + 9)) ch k)))) 0 0 (fun _ => False) := by
  refine g_met [(0, .ref b), (1, .int (nI k))] (by decide) rfl (by exact Nat.le_of_ble_eq_true rfl) ?_
  intro p e s m below meth c hC hs ls hl
  have hx := hC.1.1
  have hb := hC.1.2.1
  have hpl_lo := hpl.2.2.2.2.2.2.2.2.1
  have hpl_hi := hpl.2.2.2.2.2.2.2.2.2
  refine lv_aload_n hx hb dX3_mostAgainst_0 rfl (lv_at hl 0 rfl) ?_
  refine lv_iconst (v := nI 0) hx hb dX3_mostAgainst_1 (by decide) ?_
  refine lv_iload_n hx hb dX3_mostAgainst_2 rfl (lv_at hl 1 rfl) ?_
  refine g_cp (g_rV (As := [.int (nI 0), .int (nI k)]) hC hP (c_X3_payFor l hP (b := b) (ch := ch) (i := 0) (k := k) (by first | assumption | omega) (by first | assumption | omega) (by first | assumption | omega)) hpl.1 rfl ⟨q1_170, q1_216, q1_168, q1_169, q1_2⟩ dd_X3_payFor ⟨Nat.le_of_ble_eq_true rfl, Nat.le_of_ble_eq_true rfl, rfl, rfl⟩ hl.1 rfl (Nat.le_of_ble_eq_true rfl) dX3_mostAgainst_3 ⟨Nat.le_of_ble_eq_true rfl, Nat.le_of_ble_eq_true rfl⟩) ?_
  refine W.eq (g2 := F0 m 6 ls [.int (I (b + 9) (0 * 4 + k))]) rfl ?_
  refine lv_istore_n (lv' := [(2, .int (I (b + 9) (0 * 4 + k))), (0, .ref b), (1, .int (nI k))]) hx hb dX3_mostAgainst_6 rfl hl (by decide) rfl (fun ls hl => ?_)
  refine lv_iconst (v := nI 1) hx hb dX3_mostAgainst_7 (by decide) ?_
  refine lv_istore_n (lv' := [(3, .int (nI 1)), (2, .int (I (b + 9) (0 * 4 + k))), (0, .ref b), (1, .int (nI k))]) hx hb dX3_mostAgainst_8 rfl hl (by decide) rfl (fun ls hl => ?_)
  have L9 : ∀ (n9 : Nat) (i : Nat) (v : Int32), 5 ≤ n9 + i → (1 ≤ i ∧ i ≤ ch) → (v = mxF (fun o => I (b + 9) (o * 4 + k)) (i - 1)) → ∀ ls : Array Slot, lv_has ls 4 [(0, .ref b), (1, .int (nI k)), (2, .int v), (3, .int (nI i))] → W p l e ({ frames := 1, cells := 0, slots := 0, locals := 24 } : Room) s m [.ref b, .int (nI k)].toArray below meth c H [] 0 0 (MQ below (gQp (some (.int (mostA (I (b + 9)) ch k)))) [.ref b, .int (nI k)].toArray s 0 0 (fun _ => False)) (F0 m 9 ls []) := by
    intro n9
    induction n9 with
    | zero => intro i v hn9 hi h1; exact absurd hn9 (by omega)
    | succ n9 ih9 =>
      intro i v hn9 hi h1 ls hl
      refine lv_iload_n hx hb dX3_mostAgainst_9 rfl (lv_at hl 3 rfl) ?_
      refine lv_aload_n hx hb dX3_mostAgainst_10 rfl (lv_at hl 0 rfl) ?_
      refine g_get hC hP hpl.1 rfl inX3 0 (by decide) q1_77 hpl.2.1 dX3_mostAgainst_11 ?_
      refine lv_icmp_ge (tgt := 34) hx hb dX3_mostAgainst_14 (by decide) (fun c14 => ?_) (fun c14 => ?_)
      · have c14 := (nI_leI (by omega) (by omega)).mp c14
        refine lv_iload_n hx hb dX3_mostAgainst_34 rfl (lv_at hl 2 rfl) ?_
        refine g_reti hC hs ?_ dX3_mostAgainst_35
        rw [h1, show i = ch from by omega]; rfl
      · have c14 := mt (nI_leI (by omega) (by omega)).mpr c14
        refine lv_iload_n hx hb dX3_mostAgainst_17 rfl (lv_at hl 2 rfl) ?_
        refine lv_aload_n hx hb dX3_mostAgainst_18 rfl (lv_at hl 0 rfl) ?_
        refine lv_iload_n hx hb dX3_mostAgainst_19 rfl (lv_at hl 3 rfl) ?_
        refine lv_iload_n hx hb dX3_mostAgainst_20 rfl (lv_at hl 1 rfl) ?_
        refine g_cp (g_rV (As := [.int (nI i), .int (nI k)]) hC hP (c_X3_payFor l hP (b := b) (ch := ch) (i := i) (k := k) (by first | assumption | omega) (by first | assumption | omega) (by first | assumption | omega)) hpl.1 rfl ⟨q1_170, q1_216, q1_168, q1_169, q1_2⟩ dd_X3_payFor ⟨Nat.le_of_ble_eq_true rfl, Nat.le_of_ble_eq_true rfl, rfl, rfl⟩ hl.1 rfl (Nat.le_of_ble_eq_true rfl) dX3_mostAgainst_21 ⟨Nat.le_of_ble_eq_true rfl, Nat.le_of_ble_eq_true rfl⟩) ?_
        refine W.eq (g2 := F0 m 24 ls [.int (I (b + 9) (i * 4 + k)), .int v]) rfl ?_
        refine va_mmax hx hb (hC.1.2.2.1.trans hl.1.symm) hC.1.2.2.2.1 (hC.1.2.2.2.2 _ q2_62) (hC.1.2.2.2.2 _ q2_63) (hC.1.2.2.2.2 _ q1_7) (hC.1.2.2.2.2 _ q2_64) (Nat.le_of_ble_eq_true rfl) (Nat.le_of_ble_eq_true rfl) (Nat.le_of_ble_eq_true rfl) (Nat.le_of_ble_eq_true rfl) dX3_mostAgainst_24 ?_
        refine lv_istore_n (lv' := [(2, .int (if v < (I (b + 9) (i * 4 + k)) then I (b + 9) (i * 4 + k) else v)), (0, .ref b), (1, .int (nI k)), (3, .int (nI i))]) hx hb dX3_mostAgainst_27 rfl hl (by decide) rfl (fun ls hl => ?_)
        refine lv_iinc (v := nI (i + 1)) (lv' := [(3, .int (nI (i + 1))), (2, .int (if v < (I (b + 9) (i * 4 + k)) then I (b + 9) (i * 4 + k) else v)), (0, .ref b), (1, .int (nI k))]) hx hb dX3_mostAgainst_28 hl (k := 3) rfl (nI_inc _) (by decide) rfl (fun ls hl => ?_)
        refine lv_goto (tgt := 9) hx hb dX3_mostAgainst_31 (by decide) ?_
        exact ih9 (i + 1) (if v < (I (b + 9) (i * 4 + k)) then I (b + 9) (i * 4 + k) else v) (by omega) (by omega) (by rw [Nat.add_sub_cancel, show i = (i - 1) + 1 from by omega, mxF, ← h1, show (i - 1) + 1 = i from by omega]) ls (lv_sub hl [2, 3, 1, 0] rfl)
  exact L9 5 1 (I (b + 9) (0 * 4 + k)) (by omega) (by omega) rfl ls (lv_sub hl [2, 3, 1, 0] rfl)
set_option maxHeartbeats 4000000 in
set_option maxRecDepth 100000 in
theorem c_X3_surePay (l : Launch) {G : gG} {T : gTy} {I : gI} {J : gJ} {Q : gR} {O : gO} {H : Heap} (hP : gP G T I J Q O H) {b ch nn : Nat} (hpl : isPl T O b ch) (hn : 1 ≤ nn ∧ nn ≤ 4) : Met l yX3_surePay (gw yX3_surePay cX3_surePay 4 (some (.int))) ({ frames := 2, cells := 0, slots := 0, locals := 48 } : Room) (gPc G H [.ref b, .int (nI nn)]) (gQp (some (.int (sureP (I (b + 9)) ch nn)))) 0 0 (fun _ => False) := by
  refine g_met [(0, .ref b), (1, .int (nI nn))] (by decide) rfl (by exact Nat.le_of_ble_eq_true rfl) ?_
  intro p e s m below meth c hC hs ls hl
  have hx := hC.1.1
  have hb := hC.1.2.1
  have hpl_lo := hpl.2.2.2.2.2.2.2.2.1
  have hpl_hi := hpl.2.2.2.2.2.2.2.2.2
  refine lv_aload_n hx hb dX3_surePay_0 rfl (lv_at hl 0 rfl) ?_
  refine lv_iconst (v := nI 0) hx hb dX3_surePay_1 (by decide) ?_
  refine lv_iload_n hx hb dX3_surePay_2 rfl (lv_at hl 1 rfl) ?_
  refine g_cp (g_rV (As := [.int (nI 0), .int (nI nn)]) hC hP (c_X3_leastFor l hP (b := b) (ch := ch) (own := 0) (nn := nn) (by first | assumption | omega) (by first | assumption | omega) (by first | assumption | omega)) hpl.1 rfl ⟨q2_58, q2_55, q2_57, qs_8, q1_2⟩ dd_X3_leastFor ⟨Nat.le_of_ble_eq_true rfl, Nat.le_of_ble_eq_true rfl, rfl, rfl⟩ hl.1 rfl (Nat.le_of_ble_eq_true rfl) dX3_surePay_3 ⟨Nat.le_of_ble_eq_true rfl, Nat.le_of_ble_eq_true rfl⟩) ?_
  refine W.eq (g2 := F0 m 6 ls [.int (leastF (I (b + 9)) nn 0)]) rfl ?_
  refine lv_istore_n (lv' := [(2, .int (leastF (I (b + 9)) nn 0)), (0, .ref b), (1, .int (nI nn))]) hx hb dX3_surePay_6 rfl hl (by decide) rfl (fun ls hl => ?_)
  refine lv_iconst (v := nI 1) hx hb dX3_surePay_7 (by decide) ?_
  refine lv_istore_n (lv' := [(3, .int (nI 1)), (2, .int (leastF (I (b + 9)) nn 0)), (0, .ref b), (1, .int (nI nn))]) hx hb dX3_surePay_8 rfl hl (by decide) rfl (fun ls hl => ?_)
  have L9 : ∀ (n9 : Nat) (i : Nat) (v : Int32), 5 ≤ n9 + i → (1 ≤ i ∧ i ≤ ch) → (v = mxF (leastF (I (b + 9)) nn) (i - 1)) → ∀ ls : Array Slot, lv_has ls 4 [(0, .ref b), (1, .int (nI nn)), (2, .int v), (3, .int (nI i))] → W p l e ({ frames := 2, cells := 0, slots := 0, locals := 48 } : Room) s m [.ref b, .int (nI nn)].toArray below meth c H [] 0 0 (MQ below (gQp (some (.int (sureP (I (b + 9)) ch nn)))) [.ref b, .int (nI nn)].toArray s 0 0 (fun _ => False)) (F0 m 9 ls []) := by
    intro n9
    induction n9 with
    | zero => intro i v hn9 hi h1; exact absurd hn9 (by omega)
    | succ n9 ih9 =>
      intro i v hn9 hi h1 ls hl
      refine lv_iload_n hx hb dX3_surePay_9 rfl (lv_at hl 3 rfl) ?_
      refine lv_aload_n hx hb dX3_surePay_10 rfl (lv_at hl 0 rfl) ?_
      refine g_get hC hP hpl.1 rfl inX3 0 (by decide) q1_77 hpl.2.1 dX3_surePay_11 ?_
      refine lv_icmp_ge (tgt := 34) hx hb dX3_surePay_14 (by decide) (fun c14 => ?_) (fun c14 => ?_)
      · have c14 := (nI_leI (by omega) (by omega)).mp c14
        refine lv_iload_n hx hb dX3_surePay_34 rfl (lv_at hl 2 rfl) ?_
        refine g_reti hC hs ?_ dX3_surePay_35
        rw [h1, show i = ch from by omega]; rfl
      · have c14 := mt (nI_leI (by omega) (by omega)).mpr c14
        refine lv_iload_n hx hb dX3_surePay_17 rfl (lv_at hl 2 rfl) ?_
        refine lv_aload_n hx hb dX3_surePay_18 rfl (lv_at hl 0 rfl) ?_
        refine lv_iload_n hx hb dX3_surePay_19 rfl (lv_at hl 3 rfl) ?_
        refine lv_iload_n hx hb dX3_surePay_20 rfl (lv_at hl 1 rfl) ?_
        refine g_cp (g_rV (As := [.int (nI i), .int (nI nn)]) hC hP (c_X3_leastFor l hP (b := b) (ch := ch) (own := i) (nn := nn) (by first | assumption | omega) (by first | assumption | omega) (by first | assumption | omega)) hpl.1 rfl ⟨q2_58, q2_55, q2_57, qs_8, q1_2⟩ dd_X3_leastFor ⟨Nat.le_of_ble_eq_true rfl, Nat.le_of_ble_eq_true rfl, rfl, rfl⟩ hl.1 rfl (Nat.le_of_ble_eq_true rfl) dX3_surePay_21 ⟨Nat.le_of_ble_eq_true rfl, Nat.le_of_ble_eq_true rfl⟩) ?_
        refine W.eq (g2 := F0 m 24 ls [.int (leastF (I (b + 9)) nn i), .int v]) rfl ?_
        refine va_mmax hx hb (hC.1.2.2.1.trans hl.1.symm) hC.1.2.2.2.1 (hC.1.2.2.2.2 _ q2_62) (hC.1.2.2.2.2 _ q2_63) (hC.1.2.2.2.2 _ q1_7) (hC.1.2.2.2.2 _ q2_64) (Nat.le_of_ble_eq_true rfl) (Nat.le_of_ble_eq_true rfl) (Nat.le_of_ble_eq_true rfl) (Nat.le_of_ble_eq_true rfl) dX3_surePay_24 ?_
        refine lv_istore_n (lv' := [(2, .int (if v < (leastF (I (b + 9)) nn i) then leastF (I (b + 9)) nn i else v)), (0, .ref b), (1, .int (nI nn)), (3, .int (nI i))]) hx hb dX3_surePay_27 rfl hl (by decide) rfl (fun ls hl => ?_)
        refine lv_iinc (v := nI (i + 1)) (lv' := [(3, .int (nI (i + 1))), (2, .int (if v < (leastF (I (b + 9)) nn i) then leastF (I (b + 9)) nn i else v)), (0, .ref b), (1, .int (nI nn))]) hx hb dX3_surePay_28 hl (k := 3) rfl (nI_inc _) (by decide) rfl (fun ls hl => ?_)
        refine lv_goto (tgt := 9) hx hb dX3_surePay_31 (by decide) ?_
        exact ih9 (i + 1) (if v < (leastF (I (b + 9)) nn i) then leastF (I (b + 9)) nn i else v) (by omega) (by omega) (by rw [Nat.add_sub_cancel, show i = (i - 1) + 1 from by omega, mxF, ← h1, show (i - 1) + 1 = i from by omega]) ls (lv_sub hl [2, 3, 1, 0] rfl)
  exact L9 5 1 (leastF (I (b + 9)) nn 0) (by omega) (by omega) rfl ls (lv_sub hl [2, 3, 1, 0] rfl)
set_option maxHeartbeats 4000000 in
set_option maxRecDepth 100000 in
theorem c_X3_holdPay (l : Launch) {G : gG} {T : gTy} {I : gI} {J : gJ} {Q : gR} {O : gO} {H : Heap} (hP : gP G T I J Q O H) {b ch nn : Nat} (hpl : isPl T O b ch) (hn : 1 ≤ nn ∧ nn ≤ 4) : Met l yX3_holdPay (gw yX3_holdPay cX3_holdPay 4 (some (.int))) ({ frames := 2, cells := 0, slots := 0, locals := 47 } : Room) (gPc G H [.ref b, .int (nI nn)]) (gQp (some (.int (holdP (I (b + 9)) ch nn)))) 0 0 (fun _ => False) := by
  refine g_met [(0, .ref b), (1, .int (nI nn))] (by decide) rfl (by exact Nat.le_of_ble_eq_true rfl) ?_
  intro p e s m below meth c hC hs ls hl
  have hx := hC.1.1
  have hb := hC.1.2.1
  have hpl_lo := hpl.2.2.2.2.2.2.2.2.1
  have hpl_hi := hpl.2.2.2.2.2.2.2.2.2
  refine lv_aload_n hx hb dX3_holdPay_0 rfl (lv_at hl 0 rfl) ?_
  refine lv_iconst (v := nI 0) hx hb dX3_holdPay_1 (by decide) ?_
  refine g_cp (g_rV (As := [.int (nI 0)]) hC hP (c_X3_mostAgainst l hP (b := b) (ch := ch) (k := 0) (by first | assumption | omega) (by first | assumption | omega)) hpl.1 rfl ⟨q2_76, q2_73, q2_74, q2_75, q1_2⟩ dd_X3_mostAgainst ⟨Nat.le_of_ble_eq_true rfl, Nat.le_of_ble_eq_true rfl, rfl, rfl⟩ hl.1 rfl (Nat.le_of_ble_eq_true rfl) dX3_holdPay_2 ⟨Nat.le_of_ble_eq_true rfl, Nat.le_of_ble_eq_true rfl⟩) ?_
  refine W.eq (g2 := F0 m 5 ls [.int (mostA (I (b + 9)) ch 0)]) rfl ?_
  refine lv_istore_n (lv' := [(2, .int (mostA (I (b + 9)) ch 0)), (0, .ref b), (1, .int (nI nn))]) hx hb dX3_holdPay_5 rfl hl (by decide) rfl (fun ls hl => ?_)
  refine lv_iconst (v := nI 1) hx hb dX3_holdPay_6 (by decide) ?_
  refine lv_istore_n (lv' := [(3, .int (nI 1)), (2, .int (mostA (I (b + 9)) ch 0)), (0, .ref b), (1, .int (nI nn))]) hx hb dX3_holdPay_7 rfl hl (by decide) rfl (fun ls hl => ?_)
  have L8 : ∀ (n8 : Nat) (i : Nat) (v : Int32), 5 ≤ n8 + i → (1 ≤ i ∧ i ≤ nn) → (v = mnF (mostA (I (b + 9)) ch) (i - 1)) → ∀ ls : Array Slot, lv_has ls 4 [(0, .ref b), (1, .int (nI nn)), (2, .int v), (3, .int (nI i))] → W p l e ({ frames := 2, cells := 0, slots := 0, locals := 47 } : Room) s m [.ref b, .int (nI nn)].toArray below meth c H [] 0 0 (MQ below (gQp (some (.int (holdP (I (b + 9)) ch nn)))) [.ref b, .int (nI nn)].toArray s 0 0 (fun _ => False)) (F0 m 8 ls []) := by
    intro n8
    induction n8 with
    | zero => intro i v hn8 hi h1; exact absurd hn8 (by omega)
    | succ n8 ih8 =>
      intro i v hn8 hi h1 ls hl
      refine lv_iload_n hx hb dX3_holdPay_8 rfl (lv_at hl 3 rfl) ?_
      refine lv_iload_n hx hb dX3_holdPay_9 rfl (lv_at hl 1 rfl) ?_
      refine lv_icmp_ge (tgt := 29) hx hb dX3_holdPay_10 (by decide) (fun c10 => ?_) (fun c10 => ?_)
      · have c10 := (nI_leI (by omega) (by omega)).mp c10
        refine lv_iload_n hx hb dX3_holdPay_29 rfl (lv_at hl 2 rfl) ?_
        refine g_reti hC hs ?_ dX3_holdPay_30
        rw [h1, show i = nn from by omega]; rfl
      · have c10 := mt (nI_leI (by omega) (by omega)).mpr c10
        refine lv_iload_n hx hb dX3_holdPay_13 rfl (lv_at hl 2 rfl) ?_
        refine lv_aload_n hx hb dX3_holdPay_14 rfl (lv_at hl 0 rfl) ?_
        refine lv_iload_n hx hb dX3_holdPay_15 rfl (lv_at hl 3 rfl) ?_
        refine g_cp (g_rV (As := [.int (nI i)]) hC hP (c_X3_mostAgainst l hP (b := b) (ch := ch) (k := i) (by first | assumption | omega) (by first | assumption | omega)) hpl.1 rfl ⟨q2_76, q2_73, q2_74, q2_75, q1_2⟩ dd_X3_mostAgainst ⟨Nat.le_of_ble_eq_true rfl, Nat.le_of_ble_eq_true rfl, rfl, rfl⟩ hl.1 rfl (Nat.le_of_ble_eq_true rfl) dX3_holdPay_16 ⟨Nat.le_of_ble_eq_true rfl, Nat.le_of_ble_eq_true rfl⟩) ?_
        refine W.eq (g2 := F0 m 19 ls [.int (mostA (I (b + 9)) ch i), .int v]) rfl ?_
        refine va_mmin hx hb (hC.1.2.2.1.trans hl.1.symm) hC.1.2.2.2.1 (hC.1.2.2.2.2 _ q2_59) (hC.1.2.2.2.2 _ q2_60) (hC.1.2.2.2.2 _ q1_7) (hC.1.2.2.2.2 _ q2_61) (Nat.le_of_ble_eq_true rfl) (Nat.le_of_ble_eq_true rfl) (Nat.le_of_ble_eq_true rfl) (Nat.le_of_ble_eq_true rfl) dX3_holdPay_19 ?_
        refine lv_istore_n (lv' := [(2, .int (if (mostA (I (b + 9)) ch i) < v then mostA (I (b + 9)) ch i else v)), (0, .ref b), (1, .int (nI nn)), (3, .int (nI i))]) hx hb dX3_holdPay_22 rfl hl (by decide) rfl (fun ls hl => ?_)
        refine lv_iinc (v := nI (i + 1)) (lv' := [(3, .int (nI (i + 1))), (2, .int (if (mostA (I (b + 9)) ch i) < v then mostA (I (b + 9)) ch i else v)), (0, .ref b), (1, .int (nI nn))]) hx hb dX3_holdPay_23 hl (k := 3) rfl (nI_inc _) (by decide) rfl (fun ls hl => ?_)
        refine lv_goto (tgt := 8) hx hb dX3_holdPay_26 (by decide) ?_
        exact ih8 (i + 1) (if (mostA (I (b + 9)) ch i) < v then mostA (I (b + 9)) ch i else v) (by omega) (by omega) (by rw [Nat.add_sub_cancel, show i = (i - 1) + 1 from by omega, mnF, ← h1, show (i - 1) + 1 = i from by omega]) ls (lv_sub hl [2, 3, 1, 0] rfl)
  exact L8 5 1 (mostA (I (b + 9)) ch 0) (by omega) (by omega) rfl ls (lv_sub hl [2, 3, 1, 0] rfl)
set_option maxHeartbeats 4000000 in
set_option maxRecDepth 100000 in
theorem c_X3_farthestPay (l : Launch) {G : gG} {T : gTy} {I : gI} {J : gJ} {Q : gR} {O : gO} {H : Heap} (hP : gP G T I J Q O H) {b ch : Nat} (hpl : isPl T O b ch) : Met l yX3_farthestPay (gw yX3_farthestPay cX3_farthestPay 3 (some (.int))) ({ frames := 1, cells := 0, slots := 0, locals := 24 } : Room) (gPc G H [.ref b]) (gQp (some (.int (farL (I (b + 9)) 16)))) 0 0 (fun _ => False) := by
  refine g_met [(0, .ref b)] (by decide) rfl (by exact Nat.le_of_ble_eq_true rfl) ?_
  intro p e s m below meth c hC hs ls hl
  have hx := hC.1.1
  have hb := hC.1.2.1
  have hpl_lo := hpl.2.2.2.2.2.2.2.2.1
  have hpl_hi := hpl.2.2.2.2.2.2.2.2.2
  refine lv_iconst (v := nI 0) hx hb dX3_farthestPay_0 (by decide) ?_
  refine lv_istore_n (lv' := [(1, .int (nI 0)), (0, .ref b)]) hx hb dX3_farthestPay_1 rfl hl (by decide) rfl (fun ls hl => ?_)
  refine lv_iconst (v := nI 0) hx hb dX3_farthestPay_2 (by decide) ?_
  refine lv_istore_n (lv' := [(2, .int (nI 0)), (1, .int (nI 0)), (0, .ref b)]) hx hb dX3_farthestPay_3 rfl hl (by decide) rfl (fun ls hl => ?_)
  have L4 : ∀ (n4 : Nat) (i : Nat) (v : Int32), 17 ≤ n4 + i → (i ≤ 16) → (v = farL (I (b + 9)) i) → ∀ ls : Array Slot, lv_has ls 3 [(0, .ref b), (1, .int v), (2, .int (nI i))] → W p l e ({ frames := 1, cells := 0, slots := 0, locals := 24 } : Room) s m [.ref b].toArray below meth c H [] 0 0 (MQ below (gQp (some (.int (farL (I (b + 9)) 16)))) [.ref b].toArray s 0 0 (fun _ => False)) (F0 m 4 ls []) := by
    intro n4
    induction n4 with
    | zero => intro i v hn4 hi h1; exact absurd hn4 (by omega)
    | succ n4 ih4 =>
      intro i v hn4 hi h1 ls hl
      refine lv_iload_n hx hb dX3_farthestPay_4 rfl (lv_at hl 2 rfl) ?_
      refine lv_aload_n hx hb dX3_farthestPay_5 rfl (lv_at hl 0 rfl) ?_
      refine g_get hC hP hpl.1 rfl inX3 2 (by decide) q1_81 hpl.2.2.2.1 dX3_farthestPay_6 ?_
      refine g_alenI hC hP hpl.2.2.2.2.2.2.1 dX3_farthestPay_9 ?_
      refine lv_icmp_ge (tgt := 33) hx hb dX3_farthestPay_10 (by decide) (fun c10 => ?_) (fun c10 => ?_)
      · have c10 := (nI_leI (by omega) (by omega)).mp c10
        refine lv_iload_n hx hb dX3_farthestPay_33 rfl (lv_at hl 1 rfl) ?_
        refine g_reti hC hs ?_ dX3_farthestPay_34
        rw [h1, show i = 16 from by omega]
      · have c10 := mt (nI_leI (by omega) (by omega)).mpr c10
        refine lv_iload_n hx hb dX3_farthestPay_13 rfl (lv_at hl 1 rfl) ?_
        refine lv_aload_n hx hb dX3_farthestPay_14 rfl (lv_at hl 0 rfl) ?_
        refine g_get hC hP hpl.1 rfl inX3 2 (by decide) q1_81 hpl.2.2.2.1 dX3_farthestPay_15 ?_
        refine lv_iload_n hx hb dX3_farthestPay_18 rfl (lv_at hl 2 rfl) ?_
        refine g_iald hC hP hpl.2.2.2.2.2.2.1 (vp_in_nI (by omega) (by decide)) dX3_farthestPay_19 ?_
        refine g_topi (y := I (b + 9) i) (congrArg (I (b + 9)) (nI_clamp (by omega))) ?_
        refine va_mabs hx hb (hC.1.2.2.1.trans hl.1.symm) hC.1.2.2.2.1 (hC.1.2.2.2.2 _ q2_217) (hC.1.2.2.2.2 _ q2_218) (hC.1.2.2.2.2 _ q1_7) (hC.1.2.2.2.2 _ q2_219) (Nat.le_of_ble_eq_true rfl) (Nat.le_of_ble_eq_true rfl) (Nat.le_of_ble_eq_true rfl) (Nat.le_of_ble_eq_true rfl) dX3_farthestPay_20 ?_
        refine va_mmax hx hb (hC.1.2.2.1.trans hl.1.symm) hC.1.2.2.2.1 (hC.1.2.2.2.2 _ q2_62) (hC.1.2.2.2.2 _ q2_63) (hC.1.2.2.2.2 _ q1_7) (hC.1.2.2.2.2 _ q2_64) (Nat.le_of_ble_eq_true rfl) (Nat.le_of_ble_eq_true rfl) (Nat.le_of_ble_eq_true rfl) (Nat.le_of_ble_eq_true rfl) dX3_farthestPay_23 ?_
        refine lv_istore_n (lv' := [(1, .int (if v < (if 0 ≤ I (b + 9) i then I (b + 9) i else 0 - (I (b + 9) i)) then if 0 ≤ I (b + 9) i then I (b + 9) i else 0 - (I (b + 9) i) else v)), (0, .ref b), (2, .int (nI i))]) hx hb dX3_farthestPay_26 rfl hl (by decide) rfl (fun ls hl => ?_)
        refine lv_iinc (v := nI (i + 1)) (lv' := [(2, .int (nI (i + 1))), (1, .int (if v < (if 0 ≤ I (b + 9) i then I (b + 9) i else 0 - (I (b + 9) i)) then if 0 ≤ I (b + 9) i then I (b + 9) i else 0 - (I (b + 9) i) else v)), (0, .ref b)]) hx hb dX3_farthestPay_27 hl (k := 2) rfl (nI_inc _) (by decide) rfl (fun ls hl => ?_)
        refine lv_goto (tgt := 4) hx hb dX3_farthestPay_30 (by decide) ?_
        exact ih4 (i + 1) (if v < (if 0 ≤ I (b + 9) i then I (b + 9) i else 0 - (I (b + 9) i)) then if 0 ≤ I (b + 9) i then I (b + 9) i else 0 - (I (b + 9) i) else v) (by omega) (by omega) (by rw [farL, ← h1]) ls (lv_sub hl [2, 1, 0] rfl)
  exact L4 17 0 (nI 0) (by omega) (by omega) rfl ls (lv_sub hl [2, 1, 0] rfl)
set_option maxHeartbeats 4000000 in
set_option maxRecDepth 100000 in
theorem c_X3_takesFrom (l : Launch) {G : gG} {T : gTy} {I : gI} {J : gJ} {Q : gR} {O : gO} {H : Heap} (hP : gP G T I J Q O H) {b ch d dh : Nat} (hpl : isPl T O b ch) (hpk : isPl T O d dh) : Met l yX3_takesFrom (gw yX3_takesFrom cX3_takesFrom 4 (some (.boolean))) ({ frames := 1, cells := 0, slots := 0, locals := 22 } : Room) (gPc G H [.ref b, .ref d]) (gQp (some (.int (gb (zeroB (I (b + 9)) (I (d + 9)) ch dh))))) 0 0 (fun _ => False) := by
  refine g_met [(0, .ref b), (1, .ref d)] (by decide) rfl (by exact Nat.le_of_ble_eq_true rfl) ?_
  intro p e s m below meth c hC hs ls hl
  have hx := hC.1.1
  have hb := hC.1.2.1
  have hpl_lo := hpl.2.2.2.2.2.2.2.2.1
  have hpl_hi := hpl.2.2.2.2.2.2.2.2.2
  have hpk_lo := hpk.2.2.2.2.2.2.2.2.1
  have hpk_hi := hpk.2.2.2.2.2.2.2.2.2
  refine lv_iconst (v := nI 0) hx hb dX3_takesFrom_0 (by decide) ?_
  refine lv_istore_n (lv' := [(2, .int (nI 0)), (0, .ref b), (1, .ref d)]) hx hb dX3_takesFrom_1 rfl hl (by decide) rfl (fun ls hl => ?_)
  have L2 : ∀ (n2 : Nat) (i : Nat), 5 ≤ n2 + i → (i ≤ ch) → (∀ a, a < i → ∀ k, k < dh → I (b + 9) (a * 4 + k) + I (d + 9) (k * 4 + a) = 0) → ∀ ls : Array Slot, lv_has ls 4 [(0, .ref b), (1, .ref d), (2, .int (nI i))] → W p l e ({ frames := 1, cells := 0, slots := 0, locals := 22 } : Room) s m [.ref b, .ref d].toArray below meth c H [] 0 0 (MQ below (gQp (some (.int (gb (zeroB (I (b + 9)) (I (d + 9)) ch dh))))) [.ref b, .ref d].toArray s 0 0 (fun _ => False)) (F0 m 2 ls []) := by
    intro n2
    induction n2 with
    | zero => intro i hn2 hi h1; exact absurd hn2 (by omega)
    | succ n2 ih2 =>
      intro i hn2 hi h1 ls hl
      refine lv_iload_n hx hb dX3_takesFrom_2 rfl (lv_at hl 2 rfl) ?_
      refine lv_aload_n hx hb dX3_takesFrom_3 rfl (lv_at hl 0 rfl) ?_
      refine g_get hC hP hpl.1 rfl inX3 0 (by decide) q1_77 hpl.2.1 dX3_takesFrom_4 ?_
      refine lv_icmp_ge (tgt := 50) hx hb dX3_takesFrom_7 (by decide) (fun c7 => ?_) (fun c7 => ?_)
      · have c7 := (nI_leI (by omega) (by omega)).mp c7
        refine lv_iconst (v := nI 1) hx hb dX3_takesFrom_50 (by decide) ?_
        refine g_retz hC hs ?_ dX3_takesFrom_51
        rw [show zeroB (I (b + 9)) (I (d + 9)) ch dh = true from zeroB_iff.mpr (fun a h k hk => h1 a (by omega) k hk)]; rfl
      · have c7 := mt (nI_leI (by omega) (by omega)).mpr c7
        refine lv_iconst (v := nI 0) hx hb dX3_takesFrom_10 (by decide) ?_
        refine lv_istore_n (lv' := [(3, .int (nI 0)), (0, .ref b), (1, .ref d), (2, .int (nI i))]) hx hb dX3_takesFrom_11 rfl hl (by decide) rfl (fun ls hl => ?_)
        have L12 : ∀ (n12 : Nat) (j : Nat), 5 ≤ n12 + j → (j ≤ dh) → (∀ k, k < j → I (b + 9) (i * 4 + k) + I (d + 9) (k * 4 + i) = 0) → ∀ ls : Array Slot, lv_has ls 4 [(0, .ref b), (1, .ref d), (2, .int (nI i)), (3, .int (nI j))] → W p l e ({ frames := 1, cells := 0, slots := 0, locals := 22 } : Room) s m [.ref b, .ref d].toArray below meth c H [] 0 0 (MQ below (gQp (some (.int (gb (zeroB (I (b + 9)) (I (d + 9)) ch dh))))) [.ref b, .ref d].toArray s 0 0 (fun _ => False)) (F0 m 12 ls []) := by
          intro n12
          induction n12 with
          | zero => intro j hn12 hj h2; exact absurd hn12 (by omega)
          | succ n12 ih12 =>
            intro j hn12 hj h2 ls hl
            refine lv_iload_n hx hb dX3_takesFrom_12 rfl (lv_at hl 3 rfl) ?_
            refine lv_aload_n hx hb dX3_takesFrom_13 rfl (lv_at hl 1 rfl) ?_
            refine g_get hC hP hpk.1 rfl inX3 0 (by decide) q1_77 hpk.2.1 dX3_takesFrom_14 ?_
            refine lv_icmp_ge (tgt := 44) hx hb dX3_takesFrom_17 (by decide) (fun c17 => ?_) (fun c17 => ?_)
            · have c17 := (nI_leI (by omega) (by omega)).mp c17
              refine lv_iinc (v := nI (i + 1)) (lv' := [(2, .int (nI (i + 1))), (0, .ref b), (1, .ref d), (3, .int (nI j))]) hx hb dX3_takesFrom_44 hl (k := 2) rfl (nI_inc _) (by decide) rfl (fun ls hl => ?_)
              refine lv_goto (tgt := 2) hx hb dX3_takesFrom_47 (by decide) ?_
              exact ih2 (i + 1) (by omega) (by omega) (fun a h k hk => by rcases Nat.lt_succ_iff_lt_or_eq.mp h with h | rfl <;> first | exact h1 a h k hk | exact h2 k (by omega)) ls (lv_sub hl [1, 2, 0] rfl)
            · have c17 := mt (nI_leI (by omega) (by omega)).mpr c17
              refine lv_aload_n hx hb dX3_takesFrom_20 rfl (lv_at hl 0 rfl) ?_
              refine lv_iload_n hx hb dX3_takesFrom_21 rfl (lv_at hl 2 rfl) ?_
              refine lv_iload_n hx hb dX3_takesFrom_22 rfl (lv_at hl 3 rfl) ?_
              refine g_cp (g_rV (As := [.int (nI i), .int (nI j)]) hC hP (c_X3_payFor l hP (b := b) (ch := ch) (i := i) (k := j) (by first | assumption | omega) (by first | assumption | omega) (by first | assumption | omega)) hpl.1 rfl ⟨q1_170, q1_216, q1_168, q1_169, q1_2⟩ dd_X3_payFor ⟨Nat.le_of_ble_eq_true rfl, Nat.le_of_ble_eq_true rfl, rfl, rfl⟩ hl.1 rfl (Nat.le_of_ble_eq_true rfl) dX3_takesFrom_23 ⟨Nat.le_of_ble_eq_true rfl, Nat.le_of_ble_eq_true rfl⟩) ?_
              refine W.eq (g2 := F0 m 26 ls [.int (I (b + 9) (i * 4 + j))]) rfl ?_
              refine lv_aload_n hx hb dX3_takesFrom_26 rfl (lv_at hl 1 rfl) ?_
              refine lv_iload_n hx hb dX3_takesFrom_27 rfl (lv_at hl 3 rfl) ?_
              refine lv_iload_n hx hb dX3_takesFrom_28 rfl (lv_at hl 2 rfl) ?_
              refine g_cp (g_rV (As := [.int (nI j), .int (nI i)]) hC hP (c_X3_payFor l hP (b := d) (ch := dh) (i := j) (k := i) (by first | assumption | omega) (by first | assumption | omega) (by first | assumption | omega)) hpk.1 rfl ⟨q1_170, q1_216, q1_168, q1_169, q1_2⟩ dd_X3_payFor ⟨Nat.le_of_ble_eq_true rfl, Nat.le_of_ble_eq_true rfl, rfl, rfl⟩ hl.1 rfl (Nat.le_of_ble_eq_true rfl) dX3_takesFrom_29 ⟨Nat.le_of_ble_eq_true rfl, Nat.le_of_ble_eq_true rfl⟩) ?_
              refine W.eq (g2 := F0 m 32 ls [.int (I (d + 9) (j * 4 + i)), .int (I (b + 9) (i * 4 + j))]) rfl ?_
              refine lv_iadd hx hb dX3_takesFrom_32 ?_
              refine lv_if_eq (tgt := 38) hx hb dX3_takesFrom_33 (by decide) (fun c33 => ?_) (fun c33 => ?_)
              · refine lv_iinc (v := nI (j + 1)) (lv' := [(3, .int (nI (j + 1))), (0, .ref b), (1, .ref d), (2, .int (nI i))]) hx hb dX3_takesFrom_38 hl (k := 3) rfl (nI_inc _) (by decide) rfl (fun ls hl => ?_)
                refine lv_goto (tgt := 12) hx hb dX3_takesFrom_41 (by decide) ?_
                exact ih12 (j + 1) (by omega) (by omega) (fun k h => by rcases Nat.lt_succ_iff_lt_or_eq.mp h with h | rfl <;> first | exact h2 k h | exact c33) ls (lv_sub hl [1, 2, 3, 0] rfl)
              · refine lv_iconst (v := nI 0) hx hb dX3_takesFrom_36 (by decide) ?_
                refine g_retz hC hs ?_ dX3_takesFrom_37
                rw [show zeroB (I (b + 9)) (I (d + 9)) ch dh = false from by rw [Bool.eq_false_iff]; intro h; exact c33 (zeroB_iff.mp h i (by omega) j (by omega))]; rfl
        exact L12 5 0 (by omega) (by omega) (fun a h => absurd h (by omega)) ls (lv_sub hl [1, 2, 3, 0] rfl)
  exact L2 5 0 (by omega) (by omega) (fun a h => absurd h (by omega)) ls (lv_sub hl [1, 2, 0] rfl)
set_option maxHeartbeats 4000000 in
set_option maxRecDepth 100000 in
theorem c_X3_isLike (l : Launch) {G : gG} {T : gTy} {I : gI} {J : gJ} {Q : gR} {O : gO} {H : Heap} (hP : gP G T I J Q O H) {b ch d dh : Nat} (hpl : isPl T O b ch) (hpk : isPl T O d dh) : Met l yX3_isLike (gw yX3_isLike cX3_isLike 3 (some (.boolean))) ({ frames := 0, cells := 0, slots := 0, locals := 0 } : Room) (gPc G H [.ref b, .ref d]) (gQp (some (.int (gb (likeB (I (b + 9)) (I (d + 9)) ch dh))))) 0 0 (fun _ => False) := by
  refine g_met [(0, .ref b), (1, .ref d)] (by decide) rfl (by exact Nat.le_of_ble_eq_true rfl) ?_
  intro p e s m below meth c hC hs ls hl
  have hx := hC.1.1
  have hb := hC.1.2.1
  have hpl_lo := hpl.2.2.2.2.2.2.2.2.1
  have hpl_hi := hpl.2.2.2.2.2.2.2.2.2
  have hpk_lo := hpk.2.2.2.2.2.2.2.2.1
  have hpk_hi := hpk.2.2.2.2.2.2.2.2.2
  refine lv_aload_n hx hb dX3_isLike_0 rfl (lv_at hl 0 rfl) ?_
  refine g_get hC hP hpl.1 rfl inX3 0 (by decide) q1_77 hpl.2.1 dX3_isLike_1 ?_
  refine lv_aload_n hx hb dX3_isLike_4 rfl (lv_at hl 1 rfl) ?_
  refine g_get hC hP hpk.1 rfl inX3 0 (by decide) q1_77 hpk.2.1 dX3_isLike_5 ?_
  refine lv_icmp_eq (tgt := 13) hx hb dX3_isLike_8 (by decide) (fun c8 => ?_) (fun c8 => ?_)
  · have c8 := (nI_eq (by omega) (by omega)).mp c8
    refine lv_iconst (v := nI 0) hx hb dX3_isLike_13 (by decide) ?_
    refine lv_istore_n (lv' := [(2, .int (nI 0)), (0, .ref b), (1, .ref d)]) hx hb dX3_isLike_14 rfl hl (by decide) rfl (fun ls hl => ?_)
    have L15 : ∀ (n15 : Nat) (i : Nat), 17 ≤ n15 + i → (i ≤ 16) → (∀ j, j < i → I (b + 9) j = I (d + 9) j) → ∀ ls : Array Slot, lv_has ls 3 [(0, .ref b), (1, .ref d), (2, .int (nI i))] → W p l e ({ frames := 0, cells := 0, slots := 0, locals := 0 } : Room) s m [.ref b, .ref d].toArray below meth c H [] 0 0 (MQ below (gQp (some (.int (gb (likeB (I (b + 9)) (I (d + 9)) ch dh))))) [.ref b, .ref d].toArray s 0 0 (fun _ => False)) (F0 m 15 ls []) := by
      intro n15
      induction n15 with
      | zero => intro i hn15 hi h1; exact absurd hn15 (by omega)
      | succ n15 ih15 =>
        intro i hn15 hi h1 ls hl
        refine lv_iload_n hx hb dX3_isLike_15 rfl (lv_at hl 2 rfl) ?_
        refine lv_aload_n hx hb dX3_isLike_16 rfl (lv_at hl 0 rfl) ?_
        refine g_get hC hP hpl.1 rfl inX3 2 (by decide) q1_81 hpl.2.2.2.1 dX3_isLike_17 ?_
        refine g_alenI hC hP hpl.2.2.2.2.2.2.1 dX3_isLike_20 ?_
        refine lv_icmp_ge (tgt := 47) hx hb dX3_isLike_21 (by decide) (fun c21 => ?_) (fun c21 => ?_)
        · have c21 := (nI_leI (by omega) (by omega)).mp c21
          refine lv_iconst (v := nI 1) hx hb dX3_isLike_47 (by decide) ?_
          refine g_retz hC hs ?_ dX3_isLike_48
          rw [show likeB (I (b + 9)) (I (d + 9)) ch dh = true from likeB_iff.mpr ⟨c8, fun a h => h1 a (by omega)⟩]; rfl
        · have c21 := mt (nI_leI (by omega) (by omega)).mpr c21
          refine lv_aload_n hx hb dX3_isLike_24 rfl (lv_at hl 0 rfl) ?_
          refine g_get hC hP hpl.1 rfl inX3 2 (by decide) q1_81 hpl.2.2.2.1 dX3_isLike_25 ?_
          refine lv_iload_n hx hb dX3_isLike_28 rfl (lv_at hl 2 rfl) ?_
          refine g_iald hC hP hpl.2.2.2.2.2.2.1 (vp_in_nI (by omega) (by decide)) dX3_isLike_29 ?_
          refine g_topi (y := I (b + 9) i) (congrArg (I (b + 9)) (nI_clamp (by omega))) ?_
          refine lv_aload_n hx hb dX3_isLike_30 rfl (lv_at hl 1 rfl) ?_
          refine g_get hC hP hpk.1 rfl inX3 2 (by decide) q1_81 hpk.2.2.2.1 dX3_isLike_31 ?_
          refine lv_iload_n hx hb dX3_isLike_34 rfl (lv_at hl 2 rfl) ?_
          refine g_iald hC hP hpk.2.2.2.2.2.2.1 (vp_in_nI (by omega) (by decide)) dX3_isLike_35 ?_
          refine g_topi (y := I (d + 9) i) (congrArg (I (d + 9)) (nI_clamp (by omega))) ?_
          refine lv_icmp_eq (tgt := 41) hx hb dX3_isLike_36 (by decide) (fun c36 => ?_) (fun c36 => ?_)
          · refine lv_iinc (v := nI (i + 1)) (lv' := [(2, .int (nI (i + 1))), (0, .ref b), (1, .ref d)]) hx hb dX3_isLike_41 hl (k := 2) rfl (nI_inc _) (by decide) rfl (fun ls hl => ?_)
            refine lv_goto (tgt := 15) hx hb dX3_isLike_44 (by decide) ?_
            exact ih15 (i + 1) (by omega) (by omega) (fun k h => by rcases Nat.lt_succ_iff_lt_or_eq.mp h with h | rfl <;> first | exact h1 k h | exact c36) ls (lv_sub hl [1, 2, 0] rfl)
          · refine lv_iconst (v := nI 0) hx hb dX3_isLike_39 (by decide) ?_
            refine g_retz hC hs ?_ dX3_isLike_40
            rw [show likeB (I (b + 9)) (I (d + 9)) ch dh = false from by rw [Bool.eq_false_iff]; intro h; exact c36 ((likeB_iff.mp h).2 i (by omega))]; rfl
    exact L15 17 0 (by omega) (by omega) (fun a h => absurd h (by omega)) ls (lv_sub hl [1, 2, 0] rfl)
  · have c8 := mt (nI_eq (by omega) (by omega)).mpr c8
    refine lv_iconst (v := nI 0) hx hb dX3_isLike_11 (by decide) ?_
    refine g_retz hC hs ?_ dX3_isLike_12
    rw [show likeB (I (b + 9)) (I (d + 9)) ch dh = false from by rw [Bool.eq_false_iff]; intro h; exact c8 (likeB_iff.mp h).1]; rfl
set_option maxHeartbeats 4000000 in
set_option maxRecDepth 100000 in
theorem c_X2_orderTo (l : Launch) {G : gG} {T : gTy} {I : gI} {J : gJ} {Q : gR} {O : gO} {H : Heap} (hP : gP G T I J Q O H) {x y u n u2 n2 : Nat} {t t2 : Int64} (hmx : isMx T O x) (hmv : mxV O x t u n) (hmy : isMx T O y) (hmw : mxV O y t2 u2 n2) : Met l yX2_orderTo (gw yX2_orderTo cX2_orderTo 7 (some (.int))) ({ frames := 0, cells := 0, slots := 0, locals := 0 } : Room) (gPc G H [.ref x, .ref y]) (gQp (some (.int (ordM (J (x + 1)) t (J (y + 1)) t2)))) 0 0 (fun _ => False) := by
  refine g_met [(0, .ref x), (1, .ref y)] (by decide) rfl (by exact Nat.le_of_ble_eq_true rfl) ?_
  intro p e s m below meth c hC hs ls hl
  have hx := hC.1.1
  have hb := hC.1.2.1
  refine lv_iconst (v := nI 0) hx hb dX2_orderTo_0 (by decide) ?_
  refine lv_istore_n (lv' := [(2, .int (nI 0)), (0, .ref x), (1, .ref y)]) hx hb dX2_orderTo_1 rfl hl (by decide) rfl (fun ls hl => ?_)
  have L2 : ∀ (n2 : Nat) (i : Nat), 5 ≤ n2 + i → (i ≤ 4) → (∀ k, k < i → (!decide (J (x + 1) k * t2 = J (y + 1) k * t)) = false) → ∀ ls : Array Slot, lv_has ls 7 [(0, .ref x), (1, .ref y), (2, .int (nI i))] → W p l e ({ frames := 0, cells := 0, slots := 0, locals := 0 } : Room) s m [.ref x, .ref y].toArray below meth c H [] 0 0 (MQ below (gQp (some (.int (ordM (J (x + 1)) t (J (y + 1)) t2)))) [.ref x, .ref y].toArray s 0 0 (fun _ => False)) (F0 m 2 ls []) := by
    intro n2
    induction n2 with
    | zero => intro i hn2 hi h1; exact absurd hn2 (by omega)
    | succ n2 ih2 =>
      intro i hn2 hi h1 ls hl
      refine lv_iload_n hx hb dX2_orderTo_2 rfl (lv_at hl 2 rfl) ?_
      refine lv_iconst (v := nI 4) hx hb dX2_orderTo_3 (by decide) ?_
      refine lv_icmp_ge (tgt := 58) hx hb dX2_orderTo_4 (by decide) (fun c4 => ?_) (fun c4 => ?_)
      · have c4 := (nI_leI (by omega) (by omega)).mp c4
        refine lv_iconst (v := nI 0) hx hb dX2_orderTo_58 (by decide) ?_
        refine g_reti hC hs ?_ dX2_orderTo_59
        unfold ordM; rw [fst4_none (fun k h => h1 k (by omega))]; rfl
      · have c4 := mt (nI_leI (by omega) (by omega)).mpr c4
        refine lv_aload_n hx hb dX2_orderTo_7 rfl (lv_at hl 0 rfl) ?_
        refine g_get hC hP hmx.1 rfl inX2 0 (by decide) q1_36 hmx.2.1 dX2_orderTo_8 ?_
        refine lv_iload_n hx hb dX2_orderTo_11 rfl (lv_at hl 2 rfl) ?_
        refine g_lald hC hP hmx.2.2 (vp_in_nI (by omega) (by decide)) dX2_orderTo_12 ?_
        refine g_topl (y := J (x + 1) i) (congrArg (J (x + 1)) (nI_clamp (by omega))) ?_
        refine lv_aload_n hx hb dX2_orderTo_13 rfl (lv_at hl 1 rfl) ?_
        refine g_get hC hP hmy.1 rfl inX2 1 (by decide) q1_40 hmw.1 dX2_orderTo_14 ?_
        refine lv_lmul hx hb dX2_orderTo_17 ?_
        refine lv_lstore_n (lv' := [(3, .long ((J (x + 1) i) * t2)), (0, .ref x), (1, .ref y), (2, .int (nI i))]) hx hb dX2_orderTo_18 rfl hl (by decide) rfl (fun ls hl => ?_)
        refine lv_aload_n hx hb dX2_orderTo_19 rfl (lv_at hl 2 rfl) ?_
        refine g_get hC hP hmy.1 rfl inX2 0 (by decide) q1_36 hmy.2.1 dX2_orderTo_20 ?_
        refine lv_iload_n hx hb dX2_orderTo_23 rfl (lv_at hl 3 rfl) ?_
        refine g_lald hC hP hmy.2.2 (vp_in_nI (by omega) (by decide)) dX2_orderTo_24 ?_
        refine g_topl (y := J (y + 1) i) (congrArg (J (y + 1)) (nI_clamp (by omega))) ?_
        refine lv_aload_n hx hb dX2_orderTo_25 rfl (lv_at hl 1 rfl) ?_
        refine g_get hC hP hmx.1 rfl inX2 1 (by decide) q1_40 hmv.1 dX2_orderTo_26 ?_
        refine lv_lmul hx hb dX2_orderTo_29 ?_
        refine lv_lstore (lv' := [(5, .long ((J (y + 1) i) * t)), (3, .long ((J (x + 1) i) * t2)), (0, .ref x), (1, .ref y), (2, .int (nI i))]) hx hb dX2_orderTo_30 hl (by decide) rfl (fun ls hl => ?_)
        refine lv_lload_n hx hb dX2_orderTo_32 rfl (lv_at hl 1 rfl) ?_
        refine lv_lload hx hb dX2_orderTo_33 (lv_at hl 0 rfl) ?_
        refine W.lcmp hx hb dX2_orderTo_35 ?_
        refine lv_if_eq (tgt := 52) hx hb dX2_orderTo_36 (by decide) (fun c36 => ?_) (fun c36 => ?_)
        · have c36 := (lg_cmp_eq _ _).mp c36
          refine lv_iinc (v := nI (i + 1)) (lv' := [(2, .int (nI (i + 1))), (5, .long ((J (y + 1) i) * t)), (3, .long ((J (x + 1) i) * t2)), (0, .ref x), (1, .ref y)]) hx hb dX2_orderTo_52 hl (k := 4) rfl (nI_inc _) (by decide) rfl (fun ls hl => ?_)
          refine lv_goto (tgt := 2) hx hb dX2_orderTo_55 (by decide) ?_
          exact ih2 (i + 1) (by omega) (by omega) (fun k h => by rcases Nat.lt_succ_iff_lt_or_eq.mp h with h | rfl <;> first | exact h1 k h | simp_all) ls (lv_sub hl [3, 4, 0] rfl)
        · have c36 := mt (lg_cmp_eq _ _).mpr c36
          refine lv_lload_n hx hb dX2_orderTo_39 rfl (lv_at hl 1 rfl) ?_
          refine lv_lload hx hb dX2_orderTo_40 (lv_at hl 0 rfl) ?_
          refine W.lcmp hx hb dX2_orderTo_42 ?_
          refine lv_if_le (tgt := 50) hx hb dX2_orderTo_43 (by decide) (fun c43 => ?_) (fun c43 => ?_)
          · have c43 := (lg_cmp_le _ _).mp c43
            have c43 := Int64.not_lt.mpr c43
            refine lv_iconst (v := nI 1) hx hb dX2_orderTo_50 (by decide) ?_
            refine g_reti hC hs ?_ dX2_orderTo_51
            unfold ordM; rw [fst4_some (i := i) (by omega) (by simp_all) h1]; first | (simp only [if_neg c43]; rfl) | simp only [if_pos c43]
          · have c43 := mt (lg_cmp_le _ _).mpr c43
            have c43 := Int64.not_le.mp c43
            refine lv_iconst (v := (-1)) hx hb dX2_orderTo_46 (by decide) ?_
            refine lv_goto (tgt := 51) hx hb dX2_orderTo_47 (by decide) ?_
            refine g_reti hC hs ?_ dX2_orderTo_51
            unfold ordM; rw [fst4_some (i := i) (by omega) (by simp_all) h1]; first | (simp only [if_neg c43]; rfl) | simp only [if_pos c43]
  exact L2 5 0 (by omega) (by omega) (fun a h => absurd h (by omega)) ls (lv_sub hl [1, 2, 0] rfl)
set_option maxHeartbeats 4000000 in
set_option maxRecDepth 100000 in
theorem c_X2_fits (l : Launch) {G : gG} {T : gTy} {I : gI} {J : gJ} {Q : gR} {O : gO} {H : Heap} (hP : gP G T I J Q O H) {x y u n u2 n2 : Nat} {t t2 : Int64} (hmx : isMx T O x) (hmv : mxV O x t u n) (hmy : isMx T O y) (hmw : mxV O y t2 u2 n2) (b1 : u < 16) (b2 : n < 16) (b3 : u2 < 16) (b4 : n2 < 16) : Met l yX2_fits (gw yX2_fits cX2_fits 2 (some (.boolean))) ({ frames := 0, cells := 0, slots := 0, locals := 0 } : Room) (gPc G H [.ref x, .ref y]) (gQp (some (.int (gb (fitB u n u2 n2))))) 0 0 (fun _ => False) := by
  refine g_met [(0, .ref x), (1, .ref y)] (by decide) rfl (by exact Nat.le_of_ble_eq_true rfl) ?_
  intro p e s m below meth c hC hs ls hl
  have hx := hC.1.1
  have hb := hC.1.2.1
  have a1 : u &&& (15 ^^^ n2) < 2 ^ 31 := Nat.lt_of_le_of_lt Nat.and_le_left (by omega)
  have a2 : u2 &&& (15 ^^^ n) < 2 ^ 31 := Nat.lt_of_le_of_lt Nat.and_le_left (by omega)
  refine lv_aload_n hx hb dX2_fits_0 rfl (lv_at hl 0 rfl) ?_
  refine g_get hC hP hmx.1 rfl inX2 2 (by decide) q1_43 hmv.2.1 dX2_fits_1 ?_
  refine lv_aload_n hx hb dX2_fits_4 rfl (lv_at hl 1 rfl) ?_
  refine g_get hC hP hmy.1 rfl inX2 3 (by decide) q1_45 hmw.2.2 dX2_fits_5 ?_
  refine lv_iconst (v := (-1)) hx hb dX2_fits_8 (by decide) ?_
  refine lv_ixor hx hb dX2_fits_9 ?_
  refine lv_iand hx hb dX2_fits_10 ?_
  refine g_topi (y := nI (u &&& (15 ^^^ n2))) (g_andn b1 b4) ?_
  refine lv_if_ne (tgt := 32) hx hb dX2_fits_11 (by decide) (fun c11 => ?_) (fun c11 => ?_)
  · have c11 := mt (fun q => ((nI_eq (b := 0) (by omega) (by decide)).mpr q).trans nI_0) c11
    refine lv_iconst (v := nI 0) hx hb dX2_fits_32 (by decide) ?_
    refine g_retz hC hs ?_ dX2_fits_33
    simp [fitB, gb, nI, *]
  · have c11 := (nI_eq (by omega) (by decide)).mp (c11.trans nI_0.symm)
    refine lv_aload_n hx hb dX2_fits_14 rfl (lv_at hl 1 rfl) ?_
    refine g_get hC hP hmy.1 rfl inX2 2 (by decide) q1_43 hmw.2.1 dX2_fits_15 ?_
    refine lv_aload_n hx hb dX2_fits_18 rfl (lv_at hl 0 rfl) ?_
    refine g_get hC hP hmx.1 rfl inX2 3 (by decide) q1_45 hmv.2.2 dX2_fits_19 ?_
    refine lv_iconst (v := (-1)) hx hb dX2_fits_22 (by decide) ?_
    refine lv_ixor hx hb dX2_fits_23 ?_
    refine lv_iand hx hb dX2_fits_24 ?_
    refine g_topi (y := nI (u2 &&& (15 ^^^ n))) (g_andn b3 b2) ?_
    refine lv_if_ne (tgt := 32) hx hb dX2_fits_25 (by decide) (fun c25 => ?_) (fun c25 => ?_)
    · have c25 := mt (fun q => ((nI_eq (b := 0) (by omega) (by decide)).mpr q).trans nI_0) c25
      refine lv_iconst (v := nI 0) hx hb dX2_fits_32 (by decide) ?_
      refine g_retz hC hs ?_ dX2_fits_33
      simp [fitB, gb, nI, *]
    · have c25 := (nI_eq (by omega) (by decide)).mp (c25.trans nI_0.symm)
      refine lv_iconst (v := nI 1) hx hb dX2_fits_28 (by decide) ?_
      refine lv_goto (tgt := 33) hx hb dX2_fits_29 (by decide) ?_
      refine g_retz hC hs ?_ dX2_fits_33
      simp [fitB, gb, nI, *]
set_option maxHeartbeats 4000000 in
set_option maxRecDepth 100000 in
theorem c_X4_isWho (l : Launch) {G : gG} {H : Heap} {q : Int32} : Met l yX4_isWho (gw yX4_isWho cX4_isWho 1 (some (.boolean))) ({ frames := 0, cells := 0, slots := 0, locals := 0 } : Room) (gPc G H [.int q]) (gQp (some (.int (gb (isW q))))) 0 0 (fun _ => False) := by
  refine g_met [(0, .int q)] (by decide) rfl (by exact Nat.le_of_ble_eq_true rfl) ?_
  intro p e s m below meth c hC hs ls hl
  have hx := hC.1.1
  have hb := hC.1.2.1
  refine lv_iload_n hx hb dX4_isWho_0 rfl (lv_at hl 0 rfl) ?_
  refine lv_if_eq (tgt := 9) hx hb dX4_isWho_1 (by decide) (fun c1 => ?_) (fun c1 => ?_)
  · refine lv_iconst (v := nI 1) hx hb dX4_isWho_9 (by decide) ?_
    refine lv_goto (tgt := 14) hx hb dX4_isWho_10 (by decide) ?_
    refine g_retz hC hs ?_ dX4_isWho_14
    simp_all [isW, gb, nI]
  · refine lv_iload_n hx hb dX4_isWho_4 rfl (lv_at hl 0 rfl) ?_
    refine lv_iconst (v := nI 1) hx hb dX4_isWho_5 (by decide) ?_
    refine lv_icmp_ne (tgt := 13) hx hb dX4_isWho_6 (by decide) (fun c6 => ?_) (fun c6 => ?_)
    · refine lv_iconst (v := nI 0) hx hb dX4_isWho_13 (by decide) ?_
      refine g_retz hC hs ?_ dX4_isWho_14
      simp_all [isW, gb, nI]
    · refine lv_iconst (v := nI 1) hx hb dX4_isWho_9 (by decide) ?_
      refine lv_goto (tgt := 14) hx hb dX4_isWho_10 (by decide) ?_
      refine g_retz hC hs ?_ dX4_isWho_14
      simp_all [isW, gb, nI]
set_option maxHeartbeats 4000000 in
set_option maxRecDepth 100000 in
theorem c_X4_firstOf (l : Launch) {G : gG} {H : Heap} {B : Nat} (hB : B < 16) : Met l yX4_firstOf (gw yX4_firstOf cX4_firstOf 2 (some (.int))) ({ frames := 1, cells := 0, slots := 0, locals := 21 } : Room) (gPc G H [.int (nI B)]) (gQp (some (.int (oI (fst4 B.testBit))))) 0 0 (fun _ => False) := by
  refine g_met [(0, .int (nI B))] (by decide) rfl (by exact Nat.le_of_ble_eq_true rfl) ?_
  intro p e s m below meth c hC hs ls hl
  have hx := hC.1.1
  have hb := hC.1.2.1
  refine lv_iconst (v := nI 0) hx hb dX4_firstOf_0 (by decide) ?_
  refine lv_istore_n (lv' := [(1, .int (nI 0)), (0, .int (nI B))]) hx hb dX4_firstOf_1 rfl hl (by decide) rfl (fun ls hl => ?_)
  have L2 : ∀ (n2 : Nat) (i : Nat), 5 ≤ n2 + i → (i ≤ 4) → (∀ k, k < i → B.testBit k = false) → ∀ ls : Array Slot, lv_has ls 2 [(0, .int (nI B)), (1, .int (nI i))] → W p l e ({ frames := 1, cells := 0, slots := 0, locals := 21 } : Room) s m [.int (nI B)].toArray below meth c H [] 0 0 (MQ below (gQp (some (.int (oI (fst4 B.testBit))))) [.int (nI B)].toArray s 0 0 (fun _ => False)) (F0 m 2 ls []) := by
    intro n2
    induction n2 with
    | zero => intro i hn2 hi h1; exact absurd hn2 (by omega)
    | succ n2 ih2 =>
      intro i hn2 hi h1 ls hl
      refine lv_iload_n hx hb dX4_firstOf_2 rfl (lv_at hl 1 rfl) ?_
      refine lv_iconst (v := nI 4) hx hb dX4_firstOf_3 (by decide) ?_
      refine lv_icmp_ge (tgt := 23) hx hb dX4_firstOf_4 (by decide) (fun c4 => ?_) (fun c4 => ?_)
      · have c4 := (nI_leI (by omega) (by omega)).mp c4
        refine lv_bipush (v := (-9)) hx hb dX4_firstOf_23 (by decide) ?_
        refine g_reti hC hs ?_ dX4_firstOf_25
        rw [fst4_none (fun k h => h1 k (by omega))]; rfl
      · have c4 := mt (nI_leI (by omega) (by omega)).mpr c4
        refine lv_iload_n hx hb dX4_firstOf_7 rfl (lv_at hl 0 rfl) ?_
        refine lv_iload_n hx hb dX4_firstOf_8 rfl (lv_at hl 1 rfl) ?_
        refine g_cp (g_rS (As := [.int (nI B), .int (nI i)]) hC (c_X4_hasBit l (B := B) (k := i) (by first | assumption | omega) (by first | assumption | omega)) ⟨q2_11, q2_9, q2_10, q1_1⟩ dd_X4_hasBit ⟨Nat.le_of_ble_eq_true rfl, Nat.le_of_ble_eq_true rfl, rfl, rfl⟩ hl.1 rfl (Nat.le_of_ble_eq_true rfl) dX4_firstOf_9 ⟨Nat.le_of_ble_eq_true rfl, Nat.le_of_ble_eq_true rfl⟩) ?_
        refine W.eq (g2 := F0 m 12 ls [.int (gb (B.testBit i))]) rfl ?_
        refine lv_if_eq (tgt := 17) hx hb dX4_firstOf_12 (by decide) (fun c12 => ?_) (fun c12 => ?_)
        · have c12 := gb_f c12
          refine lv_iinc (v := nI (i + 1)) (lv' := [(1, .int (nI (i + 1))), (0, .int (nI B))]) hx hb dX4_firstOf_17 hl (k := 1) rfl (nI_inc _) (by decide) rfl (fun ls hl => ?_)
          refine lv_goto (tgt := 2) hx hb dX4_firstOf_20 (by decide) ?_
          exact ih2 (i + 1) (by omega) (by omega) (fun k h => by rcases Nat.lt_succ_iff_lt_or_eq.mp h with h | rfl <;> first | exact h1 k h | exact c12) ls (lv_sub hl [1, 0] rfl)
        · have c12 := gb_t c12
          refine lv_iload_n hx hb dX4_firstOf_15 rfl (lv_at hl 1 rfl) ?_
          refine g_reti hC hs ?_ dX4_firstOf_16
          rw [fst4_some (i := i) (by omega) c12 h1]; rfl
  exact L2 5 0 (by omega) (by omega) (fun a h => absurd h (by omega)) ls (lv_sub hl [1, 0] rfl)
set_option maxHeartbeats 4000000 in
set_option maxRecDepth 100000 in
theorem c_X4_commonFactor (l : Launch) {G : gG} {H : Heap} {a d : Int64} : Met l yX4_commonFactor (gw yX4_commonFactor cX4_commonFactor 11 (some (.long))) ({ frames := 0, cells := 0, slots := 0, locals := 0 } : Room) (gPc G H [.long a, .long d]) (gQp (some (.long (cfL 100 a d)))) 0 0 (fun _ => False) := by
  refine g_met [(0, .long a), (2, .long d)] (by decide) rfl (by exact Nat.le_of_ble_eq_true rfl) ?_
  intro p e s m below meth c hC hs ls hl
  have hx := hC.1.1
  have hb := hC.1.2.1
  refine lv_lload_n hx hb dX4_commonFactor_0 rfl (lv_at hl 0 rfl) ?_
  refine lv_lstore (lv' := [(4, .long a), (0, .long a), (2, .long d)]) hx hb dX4_commonFactor_1 hl (by decide) rfl (fun ls hl => ?_)
  refine lv_lload_n hx hb dX4_commonFactor_3 rfl (lv_at hl 2 rfl) ?_
  refine lv_lstore (lv' := [(6, .long d), (4, .long a), (0, .long a), (2, .long d)]) hx hb dX4_commonFactor_4 hl (by decide) rfl (fun ls hl => ?_)
  refine lv_iconst (v := nI 0) hx hb dX4_commonFactor_6 (by decide) ?_
  refine lv_istore (lv' := [(8, .int (nI 0)), (6, .long d), (4, .long a), (0, .long a), (2, .long d)]) hx hb dX4_commonFactor_7 hl (by decide) rfl (fun ls hl => ?_)
  have L9 : ∀ (n9 : Nat) (i : Nat) (g : Int64) (r : Int64), 101 ≤ n9 + i → (i ≤ 100) → (cfL (100 - i) g r = cfL 100 a d) → ∀ ls : Array Slot, lv_has ls 11 [(4, .long g), (6, .long r), (8, .int (nI i))] → W p l e ({ frames := 0, cells := 0, slots := 0, locals := 0 } : Room) s m [.long a, .long d].toArray below meth c H [] 0 0 (MQ below (gQp (some (.long (cfL 100 a d)))) [.long a, .long d].toArray s 0 0 (fun _ => False)) (F0 m 9 ls []) := by
    intro n9
    induction n9 with
    | zero => intro i g r hn9 hi h1; exact absurd hn9 (by omega)
    | succ n9 ih9 =>
      intro i g r hn9 hi h1 ls hl
      refine lv_iload hx hb dX4_commonFactor_9 (lv_at hl 2 rfl) ?_
      refine lv_bipush (v := nI 100) hx hb dX4_commonFactor_11 (by decide) ?_
      refine lv_icmp_ge (tgt := 44) hx hb dX4_commonFactor_13 (by decide) (fun c13 => ?_) (fun c13 => ?_)
      · have c13 := (nI_leI (by omega) (by omega)).mp c13
        have e1 : cfL (100 - i) g r = g := by rw [show 100 - i = 0 from by omega]; rfl
        refine lv_lload hx hb dX4_commonFactor_44 (lv_at hl 0 rfl) ?_
        refine g_retl hC hs ?_ dX4_commonFactor_46
        rw [← h1, e1]
      · have c13 := mt (nI_leI (by omega) (by omega)).mpr c13
        refine lv_lload hx hb dX4_commonFactor_16 (lv_at hl 1 rfl) ?_
        refine lv_lconst (v := 0) hx hb dX4_commonFactor_18 (by decide) ?_
        refine W.lcmp hx hb dX4_commonFactor_19 ?_
        refine lv_if_eq (tgt := 44) hx hb dX4_commonFactor_20 (by decide) (fun c20 => ?_) (fun c20 => ?_)
        · have c20 := (lg_cmp_eq _ _).mp c20
          have e1 : cfL (100 - i) g r = g := by rw [show 100 - i = (100 - i - 1) + 1 from by omega, cfL, if_pos c20]
          refine lv_lload hx hb dX4_commonFactor_44 (lv_at hl 0 rfl) ?_
          refine g_retl hC hs ?_ dX4_commonFactor_46
          rw [← h1, e1]
        · have c20 := mt (lg_cmp_eq _ _).mpr c20
          refine lv_lload hx hb dX4_commonFactor_23 (lv_at hl 0 rfl) ?_
          refine lv_lload hx hb dX4_commonFactor_25 (lv_at hl 1 rfl) ?_
          refine lv_lrem hx hb dX4_commonFactor_27 c20 ?_
          refine lv_lstore (lv' := [(9, .long (g - g / r * r)), (4, .long g), (6, .long r), (8, .int (nI i))]) hx hb dX4_commonFactor_28 hl (by decide) rfl (fun ls hl => ?_)
          refine lv_lload hx hb dX4_commonFactor_30 (lv_at hl 2 rfl) ?_
          refine lv_lstore (lv' := [(4, .long r), (9, .long (g - g / r * r)), (6, .long r), (8, .int (nI i))]) hx hb dX4_commonFactor_32 hl (by decide) rfl (fun ls hl => ?_)
          refine lv_lload hx hb dX4_commonFactor_34 (lv_at hl 1 rfl) ?_
          refine lv_lstore (lv' := [(6, .long (g - g / r * r)), (4, .long r), (9, .long (g - g / r * r)), (8, .int (nI i))]) hx hb dX4_commonFactor_36 hl (by decide) rfl (fun ls hl => ?_)
          refine lv_iinc (v := nI (i + 1)) (lv' := [(8, .int (nI (i + 1))), (6, .long (g - g / r * r)), (4, .long r), (9, .long (g - g / r * r))]) hx hb dX4_commonFactor_38 hl (k := 3) rfl (nI_inc _) (by decide) rfl (fun ls hl => ?_)
          refine lv_goto (tgt := 9) hx hb dX4_commonFactor_41 (by decide) ?_
          exact ih9 (i + 1) r (g - g / r * r) (by omega) (by omega) (by rw [← h1, show 100 - i = (100 - (i + 1)) + 1 from by omega, cfL, if_neg c20]) ls (lv_sub hl [2, 1, 0] rfl)
  exact L9 101 0 a d (by omega) (by omega) rfl ls (lv_sub hl [2, 1, 0] rfl)
set_option maxHeartbeats 4000000 in
set_option maxRecDepth 100000 in
theorem c_X4_lowest (l : Launch) {G : gG} {H : Heap} {a d : Int64} {q : Int32} : Met l yX4_lowest (gw yX4_lowest cX4_lowest 7 (some (.long))) ({ frames := 1, cells := 0, slots := 0, locals := 30 } : Room) (gPc G H [.long a, .long d, .int q]) (gQp (some (.long (lowS a d q)))) 0 0 (fun _ => False) := by
  refine g_met [(0, .long a), (2, .long d), (4, .int q)] (by decide) rfl (by exact Nat.le_of_ble_eq_true rfl) ?_
  intro p e s m below meth c hC hs ls hl
  have hx := hC.1.1
  have hb := hC.1.2.1
  refine lv_lload_n hx hb dX4_lowest_0 rfl (lv_at hl 0 rfl) ?_
  refine va_mabs_long hx hb (hC.1.2.2.1.trans hl.1.symm) hC.1.2.2.2.1 (hC.1.2.2.2.2 _ q1_224) (hC.1.2.2.2.2 _ q1_225) (hC.1.2.2.2.2 _ q1_7) (hC.1.2.2.2.2 _ q1_226) (Nat.le_of_ble_eq_true rfl) (Nat.le_of_ble_eq_true rfl) (Nat.le_of_ble_eq_true rfl) (Nat.le_of_ble_eq_true rfl) dX4_lowest_1 ?_
  refine g_topl (y := absL a) rfl ?_
  refine lv_lload_n hx hb dX4_lowest_4 rfl (lv_at hl 1 rfl) ?_
  refine g_cp (g_rS (As := [.long (absL a), .long d]) hC (c_X4_commonFactor l (a := absL a) (d := d)) ⟨q1_229, q1_227, q1_228, q1_1⟩ dd_X4_commonFactor ⟨Nat.le_of_ble_eq_true rfl, Nat.le_of_ble_eq_true rfl, rfl, rfl⟩ hl.1 rfl (Nat.le_of_ble_eq_true rfl) dX4_lowest_5 ⟨Nat.le_of_ble_eq_true rfl, Nat.le_of_ble_eq_true rfl⟩) ?_
  refine W.eq (g2 := F0 m 8 ls [.long (cfL 100 (absL a) d)]) rfl ?_
  refine lv_lstore (lv' := [(5, .long (cfL 100 (absL a) d)), (0, .long a), (2, .long d), (4, .int q)]) hx hb dX4_lowest_8 hl (by decide) rfl (fun ls hl => ?_)
  refine lv_lload hx hb dX4_lowest_10 (lv_at hl 0 rfl) ?_
  refine lv_lconst (v := 0) hx hb dX4_lowest_12 (by decide) ?_
  refine W.lcmp hx hb dX4_lowest_13 ?_
  refine lv_if_gt (tgt := 19) hx hb dX4_lowest_14 (by decide) (fun c14 => ?_) (fun c14 => ?_)
  · have c14 := (lg_cmp_gt _ _).mp c14
    refine lv_iload hx hb dX4_lowest_19 (lv_at hl 3 rfl) ?_
    refine lv_if_ne (tgt := 31) hx hb dX4_lowest_21 (by decide) (fun c21 => ?_) (fun c21 => ?_)
    · refine lv_lload_n hx hb dX4_lowest_31 rfl (lv_at hl 2 rfl) ?_
      refine lv_lload hx hb dX4_lowest_32 (lv_at hl 0 rfl) ?_
      refine lv_ldiv hx hb dX4_lowest_34 (fun z => by rw [z] at c14; exact absurd c14 (by decide)) ?_
      refine g_retl hC hs ?_ dX4_lowest_35
      unfold lowS; rw [if_pos c14]; simp [c21]
    · refine lv_lload_n hx hb dX4_lowest_24 rfl (lv_at hl 1 rfl) ?_
      refine lv_lload hx hb dX4_lowest_25 (lv_at hl 0 rfl) ?_
      refine lv_ldiv hx hb dX4_lowest_27 (fun z => by rw [z] at c14; exact absurd c14 (by decide)) ?_
      refine lv_goto (tgt := 35) hx hb dX4_lowest_28 (by decide) ?_
      refine g_retl hC hs ?_ dX4_lowest_35
      unfold lowS; rw [if_pos c14]; simp [c21]
  · have c14 := mt (lg_cmp_gt _ _).mpr c14
    refine lv_lconst (v := 0) hx hb dX4_lowest_17 (by decide) ?_
    refine g_retl hC hs ?_ dX4_lowest_18
    unfold lowS; rw [if_neg c14]
set_option maxHeartbeats 4000000 in
set_option maxRecDepth 100000 in
theorem c_J6_bitCount_0f7a4 (l : Launch) {G : gG} {H : Heap} {u : Nat} (hu : u < 16) : Met l yJ6_bitCount_0f7a4 (gw yJ6_bitCount_0f7a4 cJ6_bitCount_0f7a4 1 (some (.int))) ({ frames := 0, cells := 0, slots := 0, locals := 0 } : Room) (gPc G H [.int (nI u)]) (gQp (some (.int (nI (popc u))))) 0 0 (fun _ => False) := by
  refine g_met [(0, .int (nI u))] (by decide) rfl (by exact Nat.le_of_ble_eq_true rfl) ?_
  intro p e s m below meth c hC hs ls hl
  have hx := hC.1.1
  have hb := hC.1.2.1
  refine lv_iload_n hx hb dJ6_bitCount_0f7a4_0 rfl (lv_at hl 0 rfl) ?_
  refine lv_iload_n hx hb dJ6_bitCount_0f7a4_1 rfl (lv_at hl 0 rfl) ?_
  refine lv_iconst (v := nI 1) hx hb dJ6_bitCount_0f7a4_2 (by decide) ?_
  refine lv_iushr hx hb dJ6_bitCount_0f7a4_3 rfl ?_
  refine lv_ldcw (v := (1431655765 : Int32)) hx hb hC.1.2.2.2.1 (hC.1.2.2.2.2 _ q2_93) dJ6_bitCount_0f7a4_4 ?_
  refine lv_iand hx hb dJ6_bitCount_0f7a4_7 ?_
  refine lv_isub hx hb dJ6_bitCount_0f7a4_8 ?_
  refine lv_istore_n (lv' := [(0, .int ((nI u) - ((((nI u).toUInt32 >>> ((nI 1).toUInt32 &&& Int32.toUInt32 31)).toInt32) &&& (1431655765 : Int32))))]) hx hb dJ6_bitCount_0f7a4_9 rfl hl (by decide) rfl (fun ls hl => ?_)
  refine lv_iload_n hx hb dJ6_bitCount_0f7a4_10 rfl (lv_at hl 0 rfl) ?_
  refine lv_ldcw (v := (858993459 : Int32)) hx hb hC.1.2.2.2.1 (hC.1.2.2.2.2 _ q2_94) dJ6_bitCount_0f7a4_11 ?_
  refine lv_iand hx hb dJ6_bitCount_0f7a4_14 ?_
  refine lv_iload_n hx hb dJ6_bitCount_0f7a4_15 rfl (lv_at hl 0 rfl) ?_
  refine lv_iconst (v := nI 2) hx hb dJ6_bitCount_0f7a4_16 (by decide) ?_
  refine lv_iushr hx hb dJ6_bitCount_0f7a4_17 rfl ?_
  refine lv_ldcw (v := (858993459 : Int32)) hx hb hC.1.2.2.2.1 (hC.1.2.2.2.2 _ q2_94) dJ6_bitCount_0f7a4_18 ?_
  refine lv_iand hx hb dJ6_bitCount_0f7a4_21 ?_
  refine lv_iadd hx hb dJ6_bitCount_0f7a4_22 ?_
  refine lv_istore_n (lv' := [(0, .int ((((nI u) - ((((nI u).toUInt32 >>> ((nI 1).toUInt32 &&& Int32.toUInt32 31)).toInt32) &&& (1431655765 : Int32))) &&& (858993459 : Int32)) + (((((nI u) - ((((nI u).toUInt32 >>> ((nI 1).toUInt32 &&& Int32.toUInt32 31)).toInt32) &&& (1431655765 : Int32))).toUInt32 >>> ((nI 2).toUInt32 &&& Int32.toUInt32 31)).toInt32) &&& (858993459 : Int32))))]) hx hb dJ6_bitCount_0f7a4_23 rfl hl (by decide) rfl (fun ls hl => ?_)
  refine lv_iload_n hx hb dJ6_bitCount_0f7a4_24 rfl (lv_at hl 0 rfl) ?_
  refine lv_iload_n hx hb dJ6_bitCount_0f7a4_25 rfl (lv_at hl 0 rfl) ?_
  refine lv_iconst (v := nI 4) hx hb dJ6_bitCount_0f7a4_26 (by decide) ?_
  refine lv_iushr hx hb dJ6_bitCount_0f7a4_27 rfl ?_
  refine lv_iadd hx hb dJ6_bitCount_0f7a4_28 ?_
  refine lv_ldcw (v := (252645135 : Int32)) hx hb hC.1.2.2.2.1 (hC.1.2.2.2.2 _ q2_95) dJ6_bitCount_0f7a4_29 ?_
  refine lv_iand hx hb dJ6_bitCount_0f7a4_32 ?_
  refine lv_istore_n (lv' := [(0, .int ((((((nI u) - ((((nI u).toUInt32 >>> ((nI 1).toUInt32 &&& Int32.toUInt32 31)).toInt32) &&& (1431655765 : Int32))) &&& (858993459 : Int32)) + (((((nI u) - ((((nI u).toUInt32 >>> ((nI 1).toUInt32 &&& Int32.toUInt32 31)).toInt32) &&& (1431655765 : Int32))).toUInt32 >>> ((nI 2).toUInt32 &&& Int32.toUInt32 31)).toInt32) &&& (858993459 : Int32))) + ((((((nI u) - ((((nI u).toUInt32 >>> ((nI 1).toUInt32 &&& Int32.toUInt32 31)).toInt32) &&& (1431655765 : Int32))) &&& (858993459 : Int32)) + (((((nI u) - ((((nI u).toUInt32 >>> ((nI 1).toUInt32 &&& Int32.toUInt32 31)).toInt32) &&& (1431655765 : Int32))).toUInt32 >>> ((nI 2).toUInt32 &&& Int32.toUInt32 31)).toInt32) &&& (858993459 : Int32))).toUInt32 >>> ((nI 4).toUInt32 &&& Int32.toUInt32 31)).toInt32)) &&& (252645135 : Int32)))]) hx hb dJ6_bitCount_0f7a4_33 rfl hl (by decide) rfl (fun ls hl => ?_)
  refine lv_iload_n hx hb dJ6_bitCount_0f7a4_34 rfl (lv_at hl 0 rfl) ?_
  refine lv_iload_n hx hb dJ6_bitCount_0f7a4_35 rfl (lv_at hl 0 rfl) ?_
  refine lv_bipush (v := nI 8) hx hb dJ6_bitCount_0f7a4_36 (by decide) ?_
  refine lv_iushr hx hb dJ6_bitCount_0f7a4_38 rfl ?_
  refine lv_iadd hx hb dJ6_bitCount_0f7a4_39 ?_
  refine lv_istore_n (lv' := [(0, .int (((((((nI u) - ((((nI u).toUInt32 >>> ((nI 1).toUInt32 &&& Int32.toUInt32 31)).toInt32) &&& (1431655765 : Int32))) &&& (858993459 : Int32)) + (((((nI u) - ((((nI u).toUInt32 >>> ((nI 1).toUInt32 &&& Int32.toUInt32 31)).toInt32) &&& (1431655765 : Int32))).toUInt32 >>> ((nI 2).toUInt32 &&& Int32.toUInt32 31)).toInt32) &&& (858993459 : Int32))) + ((((((nI u) - ((((nI u).toUInt32 >>> ((nI 1).toUInt32 &&& Int32.toUInt32 31)).toInt32) &&& (1431655765 : Int32))) &&& (858993459 : Int32)) + (((((nI u) - ((((nI u).toUInt32 >>> ((nI 1).toUInt32 &&& Int32.toUInt32 31)).toInt32) &&& (1431655765 : Int32))).toUInt32 >>> ((nI 2).toUInt32 &&& Int32.toUInt32 31)).toInt32) &&& (858993459 : Int32))).toUInt32 >>> ((nI 4).toUInt32 &&& Int32.toUInt32 31)).toInt32)) &&& (252645135 : Int32)) + ((((((((nI u) - ((((nI u).toUInt32 >>> ((nI 1).toUInt32 &&& Int32.toUInt32 31)).toInt32) &&& (1431655765 : Int32))) &&& (858993459 : Int32)) + (((((nI u) - ((((nI u).toUInt32 >>> ((nI 1).toUInt32 &&& Int32.toUInt32 31)).toInt32) &&& (1431655765 : Int32))).toUInt32 >>> ((nI 2).toUInt32 &&& Int32.toUInt32 31)).toInt32) &&& (858993459 : Int32))) + ((((((nI u) - ((((nI u).toUInt32 >>> ((nI 1).toUInt32 &&& Int32.toUInt32 31)).toInt32) &&& (1431655765 : Int32))) &&& (858993459 : Int32)) + (((((nI u) - ((((nI u).toUInt32 >>> ((nI 1).toUInt32 &&& Int32.toUInt32 31)).toInt32) &&& (1431655765 : Int32))).toUInt32 >>> ((nI 2).toUInt32 &&& Int32.toUInt32 31)).toInt32) &&& (858993459 : Int32))).toUInt32 >>> ((nI 4).toUInt32 &&& Int32.toUInt32 31)).toInt32)) &&& (252645135 : Int32)).toUInt32 >>> ((nI 8).toUInt32 &&& Int32.toUInt32 31)).toInt32)))]) hx hb dJ6_bitCount_0f7a4_40 rfl hl (by decide) rfl (fun ls hl => ?_)
  refine lv_iload_n hx hb dJ6_bitCount_0f7a4_41 rfl (lv_at hl 0 rfl) ?_
  refine lv_iload_n hx hb dJ6_bitCount_0f7a4_42 rfl (lv_at hl 0 rfl) ?_
  refine lv_bipush (v := nI 16) hx hb dJ6_bitCount_0f7a4_43 (by decide) ?_
  refine lv_iushr hx hb dJ6_bitCount_0f7a4_45 rfl ?_
  refine lv_iadd hx hb dJ6_bitCount_0f7a4_46 ?_
  refine lv_istore_n (lv' := [(0, .int ((((((((nI u) - ((((nI u).toUInt32 >>> ((nI 1).toUInt32 &&& Int32.toUInt32 31)).toInt32) &&& (1431655765 : Int32))) &&& (858993459 : Int32)) + (((((nI u) - ((((nI u).toUInt32 >>> ((nI 1).toUInt32 &&& Int32.toUInt32 31)).toInt32) &&& (1431655765 : Int32))).toUInt32 >>> ((nI 2).toUInt32 &&& Int32.toUInt32 31)).toInt32) &&& (858993459 : Int32))) + ((((((nI u) - ((((nI u).toUInt32 >>> ((nI 1).toUInt32 &&& Int32.toUInt32 31)).toInt32) &&& (1431655765 : Int32))) &&& (858993459 : Int32)) + (((((nI u) - ((((nI u).toUInt32 >>> ((nI 1).toUInt32 &&& Int32.toUInt32 31)).toInt32) &&& (1431655765 : Int32))).toUInt32 >>> ((nI 2).toUInt32 &&& Int32.toUInt32 31)).toInt32) &&& (858993459 : Int32))).toUInt32 >>> ((nI 4).toUInt32 &&& Int32.toUInt32 31)).toInt32)) &&& (252645135 : Int32)) + ((((((((nI u) - ((((nI u).toUInt32 >>> ((nI 1).toUInt32 &&& Int32.toUInt32 31)).toInt32) &&& (1431655765 : Int32))) &&& (858993459 : Int32)) + (((((nI u) - ((((nI u).toUInt32 >>> ((nI 1).toUInt32 &&& Int32.toUInt32 31)).toInt32) &&& (1431655765 : Int32))).toUInt32 >>> ((nI 2).toUInt32 &&& Int32.toUInt32 31)).toInt32) &&& (858993459 : Int32))) + ((((((nI u) - ((((nI u).toUInt32 >>> ((nI 1).toUInt32 &&& Int32.toUInt32 31)).toInt32) &&& (1431655765 : Int32))) &&& (858993459 : Int32)) + (((((nI u) - ((((nI u).toUInt32 >>> ((nI 1).toUInt32 &&& Int32.toUInt32 31)).toInt32) &&& (1431655765 : Int32))).toUInt32 >>> ((nI 2).toUInt32 &&& Int32.toUInt32 31)).toInt32) &&& (858993459 : Int32))).toUInt32 >>> ((nI 4).toUInt32 &&& Int32.toUInt32 31)).toInt32)) &&& (252645135 : Int32)).toUInt32 >>> ((nI 8).toUInt32 &&& Int32.toUInt32 31)).toInt32)) + (((((((((nI u) - ((((nI u).toUInt32 >>> ((nI 1).toUInt32 &&& Int32.toUInt32 31)).toInt32) &&& (1431655765 : Int32))) &&& (858993459 : Int32)) + (((((nI u) - ((((nI u).toUInt32 >>> ((nI 1).toUInt32 &&& Int32.toUInt32 31)).toInt32) &&& (1431655765 : Int32))).toUInt32 >>> ((nI 2).toUInt32 &&& Int32.toUInt32 31)).toInt32) &&& (858993459 : Int32))) + ((((((nI u) - ((((nI u).toUInt32 >>> ((nI 1).toUInt32 &&& Int32.toUInt32 31)).toInt32) &&& (1431655765 : Int32))) &&& (858993459 : Int32)) + (((((nI u) - ((((nI u).toUInt32 >>> ((nI 1).toUInt32 &&& Int32.toUInt32 31)).toInt32) &&& (1431655765 : Int32))).toUInt32 >>> ((nI 2).toUInt32 &&& Int32.toUInt32 31)).toInt32) &&& (858993459 : Int32))).toUInt32 >>> ((nI 4).toUInt32 &&& Int32.toUInt32 31)).toInt32)) &&& (252645135 : Int32)) + ((((((((nI u) - ((((nI u).toUInt32 >>> ((nI 1).toUInt32 &&& Int32.toUInt32 31)).toInt32) &&& (1431655765 : Int32))) &&& (858993459 : Int32)) + (((((nI u) - ((((nI u).toUInt32 >>> ((nI 1).toUInt32 &&& Int32.toUInt32 31)).toInt32) &&& (1431655765 : Int32))).toUInt32 >>> ((nI 2).toUInt32 &&& Int32.toUInt32 31)).toInt32) &&& (858993459 : Int32))) + ((((((nI u) - ((((nI u).toUInt32 >>> ((nI 1).toUInt32 &&& Int32.toUInt32 31)).toInt32) &&& (1431655765 : Int32))) &&& (858993459 : Int32)) + (((((nI u) - ((((nI u).toUInt32 >>> ((nI 1).toUInt32 &&& Int32.toUInt32 31)).toInt32) &&& (1431655765 : Int32))).toUInt32 >>> ((nI 2).toUInt32 &&& Int32.toUInt32 31)).toInt32) &&& (858993459 : Int32))).toUInt32 >>> ((nI 4).toUInt32 &&& Int32.toUInt32 31)).toInt32)) &&& (252645135 : Int32)).toUInt32 >>> ((nI 8).toUInt32 &&& Int32.toUInt32 31)).toInt32)).toUInt32 >>> ((nI 16).toUInt32 &&& Int32.toUInt32 31)).toInt32)))]) hx hb dJ6_bitCount_0f7a4_47 rfl hl (by decide) rfl (fun ls hl => ?_)
  refine lv_iload_n hx hb dJ6_bitCount_0f7a4_48 rfl (lv_at hl 0 rfl) ?_
  refine lv_bipush (v := nI 63) hx hb dJ6_bitCount_0f7a4_49 (by decide) ?_
  refine lv_iand hx hb dJ6_bitCount_0f7a4_51 ?_
  refine g_reti hC hs ?_ dJ6_bitCount_0f7a4_52
  have h : ∀ u, u < 16 → (((((((((nI u) - ((((nI u).toUInt32 >>> ((nI 1).toUInt32 &&& Int32.toUInt32 31)).toInt32) &&& (1431655765 : Int32))) &&& (858993459 : Int32)) + (((((nI u) - ((((nI u).toUInt32 >>> ((nI 1).toUInt32 &&& Int32.toUInt32 31)).toInt32) &&& (1431655765 : Int32))).toUInt32 >>> ((nI 2).toUInt32 &&& Int32.toUInt32 31)).toInt32) &&& (858993459 : Int32))) + ((((((nI u) - ((((nI u).toUInt32 >>> ((nI 1).toUInt32 &&& Int32.toUInt32 31)).toInt32) &&& (1431655765 : Int32))) &&& (858993459 : Int32)) + (((((nI u) - ((((nI u).toUInt32 >>> ((nI 1).toUInt32 &&& Int32.toUInt32 31)).toInt32) &&& (1431655765 : Int32))).toUInt32 >>> ((nI 2).toUInt32 &&& Int32.toUInt32 31)).toInt32) &&& (858993459 : Int32))).toUInt32 >>> ((nI 4).toUInt32 &&& Int32.toUInt32 31)).toInt32)) &&& (252645135 : Int32)) + ((((((((nI u) - ((((nI u).toUInt32 >>> ((nI 1).toUInt32 &&& Int32.toUInt32 31)).toInt32) &&& (1431655765 : Int32))) &&& (858993459 : Int32)) + (((((nI u) - ((((nI u).toUInt32 >>> ((nI 1).toUInt32 &&& Int32.toUInt32 31)).toInt32) &&& (1431655765 : Int32))).toUInt32 >>> ((nI 2).toUInt32 &&& Int32.toUInt32 31)).toInt32) &&& (858993459 : Int32))) + ((((((nI u) - ((((nI u).toUInt32 >>> ((nI 1).toUInt32 &&& Int32.toUInt32 31)).toInt32) &&& (1431655765 : Int32))) &&& (858993459 : Int32)) + (((((nI u) - ((((nI u).toUInt32 >>> ((nI 1).toUInt32 &&& Int32.toUInt32 31)).toInt32) &&& (1431655765 : Int32))).toUInt32 >>> ((nI 2).toUInt32 &&& Int32.toUInt32 31)).toInt32) &&& (858993459 : Int32))).toUInt32 >>> ((nI 4).toUInt32 &&& Int32.toUInt32 31)).toInt32)) &&& (252645135 : Int32)).toUInt32 >>> ((nI 8).toUInt32 &&& Int32.toUInt32 31)).toInt32)) + (((((((((nI u) - ((((nI u).toUInt32 >>> ((nI 1).toUInt32 &&& Int32.toUInt32 31)).toInt32) &&& (1431655765 : Int32))) &&& (858993459 : Int32)) + (((((nI u) - ((((nI u).toUInt32 >>> ((nI 1).toUInt32 &&& Int32.toUInt32 31)).toInt32) &&& (1431655765 : Int32))).toUInt32 >>> ((nI 2).toUInt32 &&& Int32.toUInt32 31)).toInt32) &&& (858993459 : Int32))) + ((((((nI u) - ((((nI u).toUInt32 >>> ((nI 1).toUInt32 &&& Int32.toUInt32 31)).toInt32) &&& (1431655765 : Int32))) &&& (858993459 : Int32)) + (((((nI u) - ((((nI u).toUInt32 >>> ((nI 1).toUInt32 &&& Int32.toUInt32 31)).toInt32) &&& (1431655765 : Int32))).toUInt32 >>> ((nI 2).toUInt32 &&& Int32.toUInt32 31)).toInt32) &&& (858993459 : Int32))).toUInt32 >>> ((nI 4).toUInt32 &&& Int32.toUInt32 31)).toInt32)) &&& (252645135 : Int32)) + ((((((((nI u) - ((((nI u).toUInt32 >>> ((nI 1).toUInt32 &&& Int32.toUInt32 31)).toInt32) &&& (1431655765 : Int32))) &&& (858993459 : Int32)) + (((((nI u) - ((((nI u).toUInt32 >>> ((nI 1).toUInt32 &&& Int32.toUInt32 31)).toInt32) &&& (1431655765 : Int32))).toUInt32 >>> ((nI 2).toUInt32 &&& Int32.toUInt32 31)).toInt32) &&& (858993459 : Int32))) + ((((((nI u) - ((((nI u).toUInt32 >>> ((nI 1).toUInt32 &&& Int32.toUInt32 31)).toInt32) &&& (1431655765 : Int32))) &&& (858993459 : Int32)) + (((((nI u) - ((((nI u).toUInt32 >>> ((nI 1).toUInt32 &&& Int32.toUInt32 31)).toInt32) &&& (1431655765 : Int32))).toUInt32 >>> ((nI 2).toUInt32 &&& Int32.toUInt32 31)).toInt32) &&& (858993459 : Int32))).toUInt32 >>> ((nI 4).toUInt32 &&& Int32.toUInt32 31)).toInt32)) &&& (252645135 : Int32)).toUInt32 >>> ((nI 8).toUInt32 &&& Int32.toUInt32 31)).toInt32)).toUInt32 >>> ((nI 16).toUInt32 &&& Int32.toUInt32 31)).toInt32)) &&& (nI 63) : Int32) = nI (popc u) := by decide +kernel
  exact h u hu
