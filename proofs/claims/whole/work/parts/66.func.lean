/-! ===== each relation has one answer and one new state ===== -/
def gInv (s : GS) : Prop := (1 ≤ gsm s ∧ gsm s ≤ 4) ∧ (1 ≤ gsn s ∧ gsn s ≤ 4) ∧ bdP (gsP0 s) ∧ bdP (gsP1 s) ∧ wOK (gsw0 s) ∧ wOK (gsw1 s) ∧ zOut s
def fnI (r : (Int32 → GS → Prop) → Prop) : Prop := ∃ x s', gInv s' ∧ ∀ K, r K → K x s'
def fnL (r : (Int64 → GS → Prop) → Prop) : Prop := ∃ x s', gInv s' ∧ ∀ K, r K → K x s'
theorem gInv_ref {s : GS} {j : Nat} (h : gInv s) : gInv (gsRef s j) := h
theorem w_01 : isW (nI 0) = true ∧ isW (nI 1) = true ∧ ¬ nI 0 = nI 1 ∧ ¬ nI 1 = nI 0 := by decide
theorem nI_ij {a b m n : Nat} (ha : a < m) (hm : m ≤ 69) (hb : b < n) (hn : n ≤ 69) (h : nI a = nI b) : a = b := (nI_eq (by omega) (by omega)).mp h
theorem inR_lt {a m : Nat} (h : a < m) (hm : m ≤ 69) : inR (nI a) m = true := inR_t (nI_pos (by omega)) (fun q => by have := (nI_leI (by omega) (by omega)).mp q; omega)
theorem fn_who {s : GS} {q bad x0 x1 : Int32} (h : gInv s) : fnI (fun K => rWho s K q bad x0 x1) := by
  by_cases c0 : q = nI 0
  · refine ⟨x0, s, h, fun K r => ?_⟩
    subst c0
    rcases r with ⟨a, -⟩ | ⟨-, k⟩ | ⟨a, -⟩
    · rw [w_01.1] at a; cases a
    · exact k
    · exact absurd a w_01.2.2.1
  · by_cases c1 : q = nI 1
    · refine ⟨x1, s, h, fun K r => ?_⟩
      subst c1
      rcases r with ⟨a, -⟩ | ⟨a, -⟩ | ⟨-, k⟩
      · rw [w_01.2.1] at a; cases a
      · exact absurd a w_01.2.2.2
      · exact k
    · refine ⟨bad, gsRef s 1, h, fun K r => ?_⟩
      rcases r with ⟨-, k⟩ | ⟨a, -⟩ | ⟨a, -⟩
      · exact k
      · exact absurd a c0
      · exact absurd a c1
theorem i14 {i : Nat} (h : 1 ≤ i ∧ i ≤ 4) : ¬ nI i < nI 1 ∧ ¬ nI 4 < nI i := by
  have q : ∀ i, i < 5 → 1 ≤ i → ¬ nI i < nI 1 ∧ ¬ nI 4 < nI i := by decide
  exact q i (by omega) h.1
theorem bd_0 : ¬ (0 : Int32) < -20 ∧ ¬ nI 20 < (0 : Int32) := by decide
theorem fn_game {s : GS} {a b : Int32} (h : gInv s) : fnI (fun K => rGame s K a b) := by
  by_cases c1 : a < nI 1 ∨ b < nI 1
  · refine ⟨-4, gsRef s 4, h, fun K r => ?_⟩
    rcases r with ⟨-, k⟩ | ⟨n, -⟩ | ⟨i, k, hi, hk, rfl, rfl, -⟩
    · exact k
    · exact absurd c1 n
    · rcases c1 with c | c
      · exact absurd c (i14 hi).1
      · exact absurd c (i14 hk).1
  · by_cases c2 : nI 4 < a ∨ nI 4 < b
    · refine ⟨-6, gsRef s 6, h, fun K r => ?_⟩
      rcases r with ⟨n, -⟩ | ⟨-, -, k⟩ | ⟨i, k, hi, hk, rfl, rfl, -⟩
      · exact absurd n c1
      · exact k
      · rcases c2 with c | c
        · exact absurd c (i14 hi).2
        · exact absurd c (i14 hk).2
    · obtain ⟨i, hi1, hi4, rfl⟩ := g14 (fun q => c1 (Or.inl q)) (fun q => c2 (Or.inl q))
      obtain ⟨k, hk1, hk4, rfl⟩ := g14 (fun q => c1 (Or.inr q)) (fun q => c2 (Or.inr q))
      refine ⟨1, (i, k, z16 (gsP0 s) 16, z16 (gsP1 s) 16, gsw0 s, gsw1 s, gsrf s), ?_, fun K r => ?_⟩
      · refine ⟨⟨hi1, hi4⟩, ⟨hk1, hk4⟩, fun j hj => ?_, fun j hj => ?_, h.2.2.2.2.1, h.2.2.2.2.2.1, fun x y hx hy _ => ⟨if_pos (by omega), if_pos (by omega)⟩⟩
        · show ¬ (if j < 16 then (0 : Int32) else _) < -20 ∧ ¬ nI 20 < (if j < 16 then (0 : Int32) else _)
          rw [if_pos hj]; exact bd_0
        · show ¬ (if j < 16 then (0 : Int32) else _) < -20 ∧ ¬ nI 20 < (if j < 16 then (0 : Int32) else _)
          rw [if_pos hj]; exact bd_0
      · rcases r with ⟨n, -⟩ | ⟨-, n, -⟩ | ⟨i', k', hi, hk, e1, e2, q⟩
        · exact absurd n c1
        · exact absurd n c2
        · have f1 := (nI_eq (a := i) (b := i') (by omega) (by omega)).mp e1
          have f2 := (nI_eq (a := k) (b := k') (by omega) (by omega)).mp e2
          subst f1 f2
          exact q
theorem pl_t {s : GS} {q : Int32} {a b : Nat} (h : gInv s) (ha : a < gsm s) (hb : b < gsn s) (hq : q = nI 0 ∨ q = nI 1) : plOK s q (nI a) (nI b) = true := by
  unfold plOK
  have h1 := h.1
  have h2 := h.2.1
  rw [inR_lt ha (by omega), inR_lt hb (by omega)]
  rcases hq with rfl | rfl <;> decide
theorem pl_i {s : GS} {q i k : Int32} (h : gInv s) (c : plOK s q i k = true) : (q = nI 0 ∨ q = nI 1) ∧ (∃ a, a < gsm s ∧ i = nI a) ∧ ∃ b, b < gsn s ∧ k = nI b := by
  unfold plOK at c
  rw [Bool.and_eq_true, Bool.and_eq_true] at c
  have h1 := h.1
  have h2 := h.2.1
  exact ⟨isW_c c.1, inR_nI (by omega) c.2.1, inR_nI (by omega) c.2.2⟩
theorem bdP_gu {P : Nat → Int32} {j : Nat} {v : Int32} (h : bdP P) (h1 : ¬ v < -20) (h2 : ¬ nI 20 < v) : bdP (gu P j v) := fun i hi => by
  unfold gu
  split
  · exact ⟨h1, h2⟩
  · exact h i hi
theorem fn_pay {s : GS} {q i k v : Int32} (h : gInv s) : fnI (fun K => rPay s K q i k v) := by
  cases c : plOK s q i k
  · refine ⟨1000000000 - (-1), gsRef s 1, h, fun K r => ?_⟩
    rcases r with ⟨-, k⟩ | ⟨n, -⟩ | ⟨n, -⟩ | ⟨a, b, ha, hb, rfl, rfl, -, -, z⟩
    · exact k
    · rw [c] at n; cases n
    · rw [c] at n; cases n
    · rw [pl_t h ha hb (z.elim (fun z => Or.inl z.1) (fun z => Or.inr z.1))] at c; cases c
  · obtain ⟨hq, ⟨a, ha, rfl⟩, b, hb, rfl⟩ := pl_i h c
    have hm := h.1
    have hn := h.2.1
    by_cases v1 : v < -20
    · refine ⟨1000000000 - (-4), gsRef s 4, h, fun K r => ?_⟩
      rcases r with ⟨n, -⟩ | ⟨-, -, k⟩ | ⟨-, n, -⟩ | ⟨a', b', -, -, -, -, n, -, -⟩
      · rw [c] at n; cases n
      · exact k
      · exact absurd v1 n
      · exact absurd v1 n
    · by_cases v2 : nI 20 < v
      · refine ⟨1000000000 - (-6), gsRef s 6, h, fun K r => ?_⟩
        rcases r with ⟨n, -⟩ | ⟨-, n, -⟩ | ⟨-, -, -, k⟩ | ⟨a', b', -, -, -, -, -, n, -⟩
        · rw [c] at n; cases n
        · exact absurd n v1
        · exact k
        · exact absurd v2 n
      · have key : ∀ (K : Int32 → GS → Prop), rPay s K q (nI a) (nI b) v → (q = nI 0 ∧ K (gsP0 s (a * 4 + b)) (gsSetP s (gu (gsP0 s) (a * 4 + b) v) (gsP1 s))) ∨ (q = nI 1 ∧ K (gsP1 s (b * 4 + a)) (gsSetP s (gsP0 s) (gu (gsP1 s) (b * 4 + a) v))) := fun K r => by
          rcases r with ⟨n, -⟩ | ⟨-, n, -⟩ | ⟨-, -, n, -⟩ | ⟨a', b', ha', hb', e1, e2, -, -, z⟩
          · rw [c] at n; cases n
          · exact absurd n v1
          · exact absurd n v2
          · have f1 := nI_ij ha (by omega) ha' (by omega) e1
            have f2 := nI_ij hb (by omega) hb' (by omega) e2
            subst f1 f2
            exact z
        obtain ⟨i1, i2, i3, i4, i5, i6, i7⟩ := h
        rcases hq with rfl | rfl
        · refine ⟨gsP0 s (a * 4 + b), gsSetP s (gu (gsP0 s) (a * 4 + b) v) (gsP1 s), ⟨i1, i2, bdP_gu i3 v1 v2, i4, i5, i6, fun x y hx hy o => ?_⟩, fun K r => ?_⟩
          · have o' : gsm s ≤ x ∨ gsn s ≤ y := o
            refine ⟨?_, (i7 x y hx hy o).2⟩
            show gu (gsP0 s) (a * 4 + b) v (x * 4 + y) = 0
            rw [gu_ne _ _ (by omega)]
            exact (i7 x y hx hy o).1
          · rcases key K r with ⟨-, z⟩ | ⟨e, -⟩
            · exact z
            · exact absurd e w_01.2.2.1
        · refine ⟨gsP1 s (b * 4 + a), gsSetP s (gsP0 s) (gu (gsP1 s) (b * 4 + a) v), ⟨i1, i2, i3, bdP_gu i4 v1 v2, i5, i6, fun x y hx hy o => ?_⟩, fun K r => ?_⟩
          · have o' : gsm s ≤ x ∨ gsn s ≤ y := o
            refine ⟨(i7 x y hx hy o).1, ?_⟩
            show gu (gsP1 s) (b * 4 + a) v (y * 4 + x) = 0
            rw [gu_ne _ _ (by omega)]
            exact (i7 x y hx hy o).2
          · rcases key K r with ⟨e, -⟩ | ⟨-, z⟩
            · exact absurd e w_01.2.2.2
            · exact z
theorem fn_paid {s : GS} {q i k : Int32} (h : gInv s) : fnI (fun K => rPaid s K q i k) := by
  cases c : plOK s q i k
  · refine ⟨1000000000 - (-1), gsRef s 1, h, fun K r => ?_⟩
    rcases r with ⟨-, k⟩ | ⟨a, b, ha, hb, rfl, rfl, z⟩
    · exact k
    · rw [pl_t h ha hb (z.elim (fun z => Or.inl z.1) (fun z => Or.inr z.1))] at c; cases c
  · obtain ⟨hq, ⟨a, ha, rfl⟩, b, hb, rfl⟩ := pl_i h c
    have hm := h.1
    have hn := h.2.1
    have key : ∀ (K : Int32 → GS → Prop), rPaid s K q (nI a) (nI b) → (q = nI 0 ∧ K (gsP0 s (a * 4 + b)) s) ∨ (q = nI 1 ∧ K (gsP1 s (b * 4 + a)) s) := fun K r => by
      rcases r with ⟨n, -⟩ | ⟨a', b', ha', hb', e1, e2, z⟩
      · rw [c] at n; cases n
      · have f1 := nI_ij ha (by omega) ha' (by omega) e1
        have f2 := nI_ij hb (by omega) hb' (by omega) e2
        subst f1 f2
        exact z
    rcases hq with rfl | rfl
    · refine ⟨gsP0 s (a * 4 + b), s, h, fun K r => ?_⟩
      rcases key K r with ⟨-, z⟩ | ⟨e, -⟩
      · exact z
      · exact absurd e w_01.2.2.1
    · refine ⟨gsP1 s (b * 4 + a), s, h, fun K r => ?_⟩
      rcases key K r with ⟨e, -⟩ | ⟨-, z⟩
      · exact absurd e w_01.2.2.2
      · exact z
theorem wOK_gu {w : Nat → Int32} {j : Nat} {v : Int32} (h : wOK w) (h1 : ¬ v < 0) (h2 : ¬ nI 99 < v) : wOK (gu w j v) := fun i hi => by
  have e : (nI 99).toInt = 99 := by decide
  unfold gu
  split
  · rw [Int32.lt_iff_toInt_lt, i32_20.2.2.1] at h1
    rw [Int32.lt_iff_toInt_lt, e] at h2
    omega
  · exact h i hi
theorem fn_weight {s : GS} {q k v : Int32} (h : gInv s) : fnI (fun K => rWeight s K q k v) := by
  cases c : wtOK q k
  · refine ⟨-1, gsRef s 1, h, fun K r => ?_⟩
    rcases r with ⟨-, k⟩ | ⟨n, -⟩ | ⟨n, -⟩ | ⟨b, hb, rfl, -, -, z⟩
    · exact k
    · rw [c] at n; cases n
    · rw [c] at n; cases n
    · unfold wtOK at c
      rw [inR_lt hb (by decide)] at c
      rcases z with ⟨rfl, -⟩ | ⟨rfl, -⟩
      · rw [w_01.1] at c; cases c
      · rw [w_01.2.1] at c; cases c
  · have c' := c
    unfold wtOK at c'
    rw [Bool.and_eq_true] at c'
    have hq := isW_c c'.1
    obtain ⟨b, hb, rfl⟩ := inR_nI (by decide) c'.2
    by_cases v1 : v < 0
    · refine ⟨-4, gsRef s 4, h, fun K r => ?_⟩
      rcases r with ⟨n, -⟩ | ⟨-, -, k⟩ | ⟨-, n, -⟩ | ⟨b', -, -, n, -, -⟩
      · rw [c] at n; cases n
      · exact k
      · exact absurd v1 n
      · exact absurd v1 n
    · by_cases v2 : nI 99 < v
      · refine ⟨-6, gsRef s 6, h, fun K r => ?_⟩
        rcases r with ⟨n, -⟩ | ⟨-, n, -⟩ | ⟨-, -, -, k⟩ | ⟨b', -, -, -, n, -⟩
        · rw [c] at n; cases n
        · exact absurd n v1
        · exact k
        · exact absurd v2 n
      · have key : ∀ (K : Int32 → GS → Prop), rWeight s K q (nI b) v → (q = nI 0 ∧ K (gsw0 s b) (gsSetW s (gu (gsw0 s) b v) (gsw1 s))) ∨ (q = nI 1 ∧ K (gsw1 s b) (gsSetW s (gsw0 s) (gu (gsw1 s) b v))) := fun K r => by
          rcases r with ⟨n, -⟩ | ⟨-, n, -⟩ | ⟨-, -, n, -⟩ | ⟨b', hb', e2, -, -, z⟩
          · rw [c] at n; cases n
          · exact absurd n v1
          · exact absurd n v2
          · have f2 := nI_ij hb (by decide) hb' (by decide) e2
            subst f2
            exact z
        obtain ⟨i1, i2, i3, i4, i5, i6, i7⟩ := h
        rcases hq with rfl | rfl
        · refine ⟨gsw0 s b, gsSetW s (gu (gsw0 s) b v) (gsw1 s), ⟨i1, i2, i3, i4, wOK_gu i5 v1 v2, i6, i7⟩, fun K r => ?_⟩
          rcases key K r with ⟨-, z⟩ | ⟨e, -⟩
          · exact z
          · exact absurd e w_01.2.2.1
        · refine ⟨gsw1 s b, gsSetW s (gsw0 s) (gu (gsw1 s) b v), ⟨i1, i2, i3, i4, i5, wOK_gu i6 v1 v2, i7⟩, fun K r => ?_⟩
          rcases key K r with ⟨e, -⟩ | ⟨-, z⟩
          · exact absurd e w_01.2.2.2
          · exact z
/-- by WHO and a choice: refused, or an inner relation -/
theorem fn_ch {s : GS} {q k : Int32} {m n : Nat} (h : gInv s) (hm : m ≤ 4) (hn : n ≤ 4) (R0 R1 : Nat → (Int32 → GS → Prop) → Prop) (h0 : ∀ b, b < m → fnI (R0 b)) (h1 : ∀ b, b < n → fnI (R1 b)) : fnI (fun K => ((isW q = false ∨ (q = nI 0 ∧ inR k m = false) ∨ (q = nI 1 ∧ inR k n = false)) ∧ K (-1) (gsRef s 1)) ∨ (∃ b : Nat, k = nI b ∧ ((q = nI 0 ∧ b < m ∧ R0 b K) ∨ (q = nI 1 ∧ b < n ∧ R1 b K)))) := by
  by_cases c : isW q = false ∨ (q = nI 0 ∧ inR k m = false) ∨ (q = nI 1 ∧ inR k n = false)
  · refine ⟨-1, gsRef s 1, h, fun K r => ?_⟩
    rcases r with ⟨-, z⟩ | ⟨b, rfl, ⟨rfl, hb, -⟩ | ⟨rfl, hb, -⟩⟩
    · exact z
    · rcases c with c | ⟨-, c⟩ | ⟨c, -⟩
      · rw [w_01.1] at c; cases c
      · rw [inR_lt hb (by omega)] at c; cases c
      · exact absurd c w_01.2.2.1
    · rcases c with c | ⟨c, -⟩ | ⟨-, c⟩
      · rw [w_01.2.1] at c; cases c
      · exact absurd c w_01.2.2.2
      · rw [inR_lt hb (by omega)] at c; cases c
  · have hw : isW q = true := by
      cases e : isW q
      · exact absurd (Or.inl e) c
      · rfl
    rcases isW_c hw with rfl | rfl
    · have hk : inR k m = true := by
        cases e : inR k m
        · exact absurd (Or.inr (Or.inl ⟨rfl, e⟩)) c
        · rfl
      obtain ⟨b, hb, rfl⟩ := inR_nI (by omega) hk
      obtain ⟨x, s', hi, f⟩ := h0 b hb
      refine ⟨x, s', hi, fun K r => ?_⟩
      rcases r with ⟨n, -⟩ | ⟨b', e, ⟨-, hb', z⟩ | ⟨n, -⟩⟩
      · exact absurd n c
      · have := nI_ij hb (by omega) hb' (by omega) e
        subst this
        exact f K z
      · exact absurd n w_01.2.2.1
    · have hk : inR k n = true := by
        cases e : inR k n
        · exact absurd (Or.inr (Or.inr ⟨rfl, e⟩)) c
        · rfl
      obtain ⟨b, hb, rfl⟩ := inR_nI (by omega) hk
      obtain ⟨x, s', hi, f⟩ := h1 b hb
      refine ⟨x, s', hi, fun K r => ?_⟩
      rcases r with ⟨n, -⟩ | ⟨b', e, ⟨n, -⟩ | ⟨-, hb', z⟩⟩
      · exact absurd n c
      · exact absurd n w_01.2.2.2
      · have := nI_ij hb (by omega) hb' (by omega) e
        subst this
        exact f K z
theorem fn_one {s : GS} {x : Int32} (h : gInv s) : fnI (fun K => K x s) := ⟨x, s, h, fun _ r => r⟩
theorem fn_worse {s : GS} {q k : Int32} (h : gInv s) : fnI (fun K => rWorse s K q k) := fn_ch h h.1.2 h.2.1.2 (fun b K => K (oI (fBet (gsP0 s) b (2 ^ gsm s - 1) (2 ^ gsn s - 1))) s) (fun b K => K (oI (fBet (gsP1 s) b (2 ^ gsn s - 1) (2 ^ gsm s - 1))) s) (fun _ _ => fn_one h) (fun _ _ => fn_one h)
theorem rB_f {p : Nat → Bool} : ∀ n, rB p n = false → ∀ i, i < n → p i = false
  | 0, _, i, hi => absurd hi (Nat.not_lt_zero i)
  | n + 1, h, i, hi => by
    have h : (rB p n || p n) = false := h
    rw [Bool.or_eq_false_iff] at h
    rcases Nat.lt_succ_iff_lt_or_eq.mp hi with q | rfl
    · exact rB_f n h.1 i q
    · exact h.2
theorem bd_of {x : Int32} (h : -20 ≤ x.toInt ∧ x.toInt ≤ 20) : ¬ x < -20 ∧ ¬ nI 20 < x := by
  rw [Int32.lt_iff_toInt_lt, Int32.lt_iff_toInt_lt, i32_20.1, i32_20.2.1]
  omega
theorem bdP_add {P : Nat → Int32} {ch b : Nat} {v : Int32} (h : bdP P) (hc : 1 ≤ ch) (h1 : ¬ (leastA P ch b).toInt64 + v.toInt64 < -20) (h2 : ¬ 20 < (mostA P ch b).toInt64 + v.toInt64) : bdP (addA P ch b v) := fun j hj => by
  unfold addA
  split
  · rename_i c
    have q1 := rB_f _ ((least_b (P := P) (v := v) (b := b) hc).trans (decide_eq_false h1)) (j / 4) c.2
    have q2 := rB_f _ ((most_b (P := P) (v := v) (b := b) hc).trans (decide_eq_false h2)) (j / 4) c.2
    have e : j / 4 * 4 + b = j := by omega
    have q1 := of_decide_eq_false q1
    have q2 := of_decide_eq_false q2
    rw [e] at q1 q2
    rw [Int64.lt_iff_toInt_lt, add64, i64_20.1] at q1
    rw [Int64.lt_iff_toInt_lt, add64, i64_20.2.1] at q2
    apply bd_of
    rw [Int32.toInt_add, Int.bmod_eq_of_le (by omega) (by omega)]
    omega
  · exact h j hj
theorem fn_raise1 {s s' : GS} {P : Nat → Int32} {ch b : Nat} {v : Int32} (h : gInv s) (hs : ¬ (leastA P ch b).toInt64 + v.toInt64 < -20 → ¬ 20 < (mostA P ch b).toInt64 + v.toInt64 → gInv s') : fnI (fun K => rRaise1 s K P ch b v s') := by
  by_cases c1 : (leastA P ch b).toInt64 + v.toInt64 < -20
  · refine ⟨-4, gsRef s 4, h, fun K r => ?_⟩
    rcases r with ⟨-, z⟩ | ⟨n, -⟩ | ⟨n, -⟩
    · exact z
    · exact absurd c1 n
    · exact absurd c1 n
  · by_cases c2 : 20 < (mostA P ch b).toInt64 + v.toInt64
    · refine ⟨-6, gsRef s 6, h, fun K r => ?_⟩
      rcases r with ⟨n, -⟩ | ⟨-, -, z⟩ | ⟨-, n, -⟩
      · exact absurd n c1
      · exact z
      · exact absurd c2 n
    · refine ⟨1, s', hs c1 c2, fun K r => ?_⟩
      rcases r with ⟨n, -⟩ | ⟨-, n, -⟩ | ⟨-, -, z⟩
      · exact absurd n c1
      · exact absurd n c2
      · exact z
theorem fn_raise {s : GS} {q k v : Int32} (h : gInv s) : fnI (fun K => rRaise s K q k v) := by
  obtain ⟨i1, i2, i3, i4, i5, i6, i7⟩ := id h
  refine fn_ch h i2.2 i1.2 (fun b K => rRaise1 s K (gsP0 s) (gsm s) b v (gsSetP s (addA (gsP0 s) (gsm s) b v) (gsP1 s))) (fun b K => rRaise1 s K (gsP1 s) (gsn s) b v (gsSetP s (gsP0 s) (addA (gsP1 s) (gsn s) b v))) (fun b hb => fn_raise1 h (fun c1 c2 => ?_)) (fun b hb => fn_raise1 h (fun c1 c2 => ?_))
  · refine ⟨i1, i2, bdP_add i3 i1.1 c1 c2, i4, i5, i6, fun x y hx hy o => ⟨?_, (i7 x y hx hy o).2⟩⟩
    have o' : gsm s ≤ x ∨ gsn s ≤ y := o
    show (if (x * 4 + y) % 4 = b ∧ (x * 4 + y) / 4 < gsm s then _ else _) = (0 : Int32)
    rw [if_neg (by omega)]
    exact (i7 x y hx hy o).1
  · refine ⟨i1, i2, i3, bdP_add i4 i2.1 c1 c2, i5, i6, fun x y hx hy o => ⟨(i7 x y hx hy o).1, ?_⟩⟩
    have o' : gsm s ≤ x ∨ gsn s ≤ y := o
    show (if (y * 4 + x) % 4 = b ∧ (y * 4 + x) / 4 < gsn s then _ else _) = (0 : Int32)
    rw [if_neg (by omega)]
    exact (i7 x y hx hy o).2
theorem bdP_mul {P : Nat → Int32} {v : Int32} (h : bdP P) (hv : nI 1 ≤ v) (hc : ¬ 20 < (farL P 16).toInt64 * v.toInt64) : bdP (mulA P 16 v) := fun j hj => by
  have q := Classical.not_not.mp (mt (sc_far h hv).mpr hc) j hj
  have b := bd_int (h j hj)
  have r := (sc_in b).mp q
  show ¬ (if j < 16 then P j * v else P j) < -20 ∧ ¬ nI 20 < (if j < 16 then P j * v else P j)
  rw [if_pos hj]
  apply bd_of
  rw [Int32.toInt_mul, Int.bmod_eq_of_le (by omega) (by omega)]
  exact r
theorem fn_scale1 {s s' : GS} {P : Nat → Int32} {v : Int32} (h : gInv s) (hs : ¬ 20 < (farL P 16).toInt64 * v.toInt64 → gInv s') : fnI (fun K => rScale1 s K P v s') := by
  by_cases c : 20 < (farL P 16).toInt64 * v.toInt64
  · refine ⟨-6, gsRef s 6, h, fun K r => ?_⟩
    rcases r with ⟨-, z⟩ | ⟨n, -⟩
    · exact z
    · exact absurd c n
  · refine ⟨1, s', hs c, fun K r => ?_⟩
    rcases r with ⟨n, -⟩ | ⟨-, z⟩
    · exact absurd n c
    · exact z
theorem fn_scale {s : GS} {q v : Int32} (h : gInv s) : fnI (fun K => rScale s K q v) := by
  obtain ⟨i1, i2, i3, i4, i5, i6, i7⟩ := id h
  cases c : isW q
  · refine ⟨-1, gsRef s 1, h, fun K r => ?_⟩
    rcases r with ⟨-, z⟩ | ⟨n, -⟩ | ⟨-, ⟨rfl, -⟩ | ⟨rfl, -⟩⟩
    · exact z
    · rw [c] at n; cases n
    · rw [w_01.1] at c; cases c
    · rw [w_01.2.1] at c; cases c
  · by_cases hv : nI 1 ≤ v
    · rcases isW_c c with rfl | rfl
      · obtain ⟨x, s', hi, f⟩ := fn_scale1 (P := gsP0 s) (v := v) (s' := gsSetP s (mulA (gsP0 s) 16 v) (gsP1 s)) h (fun c2 => ⟨i1, i2, bdP_mul i3 hv c2, i4, i5, i6, fun x y hx hy o => ⟨by
          show (if x * 4 + y < 16 then gsP0 s (x * 4 + y) * v else _) = (0 : Int32)
          rw [if_pos (by omega), (i7 x y hx hy o).1, Int32.zero_mul], (i7 x y hx hy o).2⟩⟩)
        refine ⟨x, s', hi, fun K r => ?_⟩
        rcases r with ⟨n, -⟩ | ⟨-, n, -⟩ | ⟨-, ⟨-, z⟩ | ⟨n, -⟩⟩
        · rw [c] at n; cases n
        · exact absurd hv n
        · exact f K z
        · exact absurd n w_01.2.2.1
      · obtain ⟨x, s', hi, f⟩ := fn_scale1 (P := gsP1 s) (v := v) (s' := gsSetP s (gsP0 s) (mulA (gsP1 s) 16 v)) h (fun c2 => ⟨i1, i2, i3, bdP_mul i4 hv c2, i5, i6, fun x y hx hy o => ⟨(i7 x y hx hy o).1, by
          show (if y * 4 + x < 16 then gsP1 s (y * 4 + x) * v else _) = (0 : Int32)
          rw [if_pos (by omega), (i7 x y hx hy o).2, Int32.zero_mul]⟩⟩)
        refine ⟨x, s', hi, fun K r => ?_⟩
        rcases r with ⟨n, -⟩ | ⟨-, n, -⟩ | ⟨-, ⟨n, -⟩ | ⟨-, z⟩⟩
        · rw [c] at n; cases n
        · exact absurd hv n
        · exact absurd n w_01.2.2.2
        · exact f K z
    · refine ⟨-4, gsRef s 4, h, fun K r => ?_⟩
      rcases r with ⟨n, -⟩ | ⟨-, -, z⟩ | ⟨n, -⟩
      · rw [c] at n; cases n
      · exact z
      · exact absurd n hv
theorem fn_turn {s : GS} (h : gInv s) : fnI (fun K => rTurn s K) := by
  obtain ⟨i1, i2, i3, i4, i5, i6, i7⟩ := id h
  exact ⟨1, (gsn s, gsm s, gsP1 s, gsP0 s, gsw1 s, gsw0 s, gsrf s), ⟨i2, i1, i4, i3, i6, i5, fun x y hx hy o => ⟨(i7 y x hy hx o.symm).2, (i7 y x hy hx o.symm).1⟩⟩, fun _ r => r⟩
theorem fn_corner1 {s : GS} {C : CL} {c f : Int32} {b : Nat} (h : gInv s) (hC : C.1 ≤ 69) : fnI (fun K => rCorner1 s K C c b f) := by
  cases e : inR c C.1
  · refine ⟨-1, gsRef s 1, h, fun K r => ?_⟩
    rcases r with ⟨-, z⟩ | ⟨n, -⟩ | ⟨a, ha, rfl, -⟩
    · exact z
    · rw [e] at n; cases n
    · rw [inR_lt ha hC] at e; cases e
  · obtain ⟨a, ha, rfl⟩ := inR_nI (by omega) e
    by_cases g : f < nI 0 ∨ nI 2 < f
    · refine ⟨-2, gsRef s 2, h, fun K r => ?_⟩
      rcases r with ⟨n, -⟩ | ⟨-, -, z⟩ | ⟨a', -, -, n1, n2, -⟩
      · rw [e] at n; cases n
      · exact z
      · rcases g with g | g
        · exact absurd g n1
        · exact absurd g n2
    · by_cases g2 : f = nI 2
      · refine ⟨nI (C.2 a).2.2.2, s, h, fun K r => ?_⟩
        rcases r with ⟨n, -⟩ | ⟨-, n, -⟩ | ⟨a', ha', e2, -, -, ⟨-, z⟩ | ⟨n, -⟩⟩
        · rw [e] at n; cases n
        · exact absurd n g
        · have := nI_ij ha hC ha' hC e2
          subst this
          exact z
        · exact absurd g2 n
      · refine ⟨(lowS ((C.2 a).1 b) (C.2 a).2.1 f).toInt32, s, h, fun K r => ?_⟩
        rcases r with ⟨n, -⟩ | ⟨-, n, -⟩ | ⟨a', ha', e2, -, -, ⟨n, -⟩ | ⟨-, z⟩⟩
        · rw [e] at n; cases n
        · exact absurd n g
        · exact absurd n g2
        · have := nI_ij ha hC ha' hC e2
          subst this
          exact z
theorem fn_corner {s : GS} {q c j f : Int32} (h : gInv s) : fnI (fun K => rCorner s K q c j f) := fn_ch h h.1.2 h.2.1.2 (fun b K => rCorner1 s K (gsCr s) c b f) (fun b K => rCorner1 s K (gsCd s) c b f) (fun _ _ => fn_corner1 h (gsC_b h.1 h.2.1).1.1) (fun _ _ => fn_corner1 h (gsC_b h.1 h.2.1).1.2)
theorem fn_two {s s1 s2 : GS} {p : Prop} {x y : Int32} (h1 : gInv s1) (h2 : gInv s2) (hp : ∀ z : p ∨ ¬ p, True) : fnI (fun K => (p ∧ K x s1) ∨ (¬ p ∧ K y s2)) := by
  by_cases c : p
  · refine ⟨x, s1, h1, fun K r => ?_⟩
    rcases r with ⟨-, z⟩ | ⟨n, -⟩
    · exact z
    · exact absurd c n
  · refine ⟨y, s2, h2, fun K r => ?_⟩
    rcases r with ⟨n, -⟩ | ⟨-, z⟩
    · exact absurd n c
    · exact z
theorem fn_three {s1 s2 : GS} {a b : Prop} {x y : Int32} (h1 : gInv s1) (h2 : gInv s2) : fnI (fun K => ((a ∨ b) ∧ K x s1) ∨ (¬ a ∧ ¬ b ∧ K y s2)) := by
  by_cases c : a ∨ b
  · refine ⟨x, s1, h1, fun K r => ?_⟩
    rcases r with ⟨-, z⟩ | ⟨n1, n2, -⟩
    · exact z
    · exact absurd c (fun q => q.elim n1 n2)
  · refine ⟨y, s2, h2, fun K r => ?_⟩
    rcases r with ⟨n, -⟩ | ⟨-, -, z⟩
    · exact absurd n c
    · exact z
theorem fn_is {s : GS} (h : gInv s) : fnI (fun K => rIs s K) := fn_three (gInv_ref h) h
theorem fn_why {s : GS} (h : gInv s) : fnI (fun K => rWhy s K) := fn_three h h
theorem fn_find {s : GS} (h : gInv s) : fnI (fun K => rFind s K) := fn_three (gInv_ref h) h
theorem fn_ans1 {s : GS} {v : MixV} (h : gInv s) : fnI (fun K => rAns1 s K v) := fn_two (s := s) (gInv_ref h) h (fun _ => trivial)
theorem fn_answers {s : GS} {q : Int32} (h : gInv s) : fnI (fun K => rAnswers s K q) := by
  cases c : isW q
  · refine ⟨-1, gsRef s 1, h, fun K r => ?_⟩
    rcases r with ⟨-, z⟩ | ⟨rfl, -⟩ | ⟨rfl, -⟩
    · exact z
    · rw [w_01.1] at c; cases c
    · rw [w_01.2.1] at c; cases c
  · rcases isW_c c with rfl | rfl
    · obtain ⟨x, s', hi, f⟩ := fn_ans1 (v := gsT1 s) h
      refine ⟨x, s', hi, fun K r => ?_⟩
      rcases r with ⟨n, -⟩ | ⟨-, z⟩ | ⟨n, -⟩
      · rw [c] at n; cases n
      · exact f K z
      · exact absurd n w_01.2.2.1
    · obtain ⟨x, s', hi, f⟩ := fn_ans1 (v := gsT0 s) h
      refine ⟨x, s', hi, fun K r => ?_⟩
      rcases r with ⟨n, -⟩ | ⟨n, -⟩ | ⟨-, z⟩
      · rw [c] at n; cases n
      · exact absurd n w_01.2.2.2
      · exact f K z
theorem fn_mean {s : GS} {q f : Int32} (h : gInv s) : fnL (fun L => rMean s L q f) := by
  cases c : isW q
  · refine ⟨4000000000000000000 - (-1 : Int32).toInt64, gsRef s 1, h, fun K r => ?_⟩
    rcases r with ⟨-, z⟩ | ⟨n, -⟩ | ⟨-, -, n, -⟩ | ⟨-, -, -, -, ⟨rfl, -⟩ | ⟨rfl, -⟩⟩
    · exact z
    · rw [c] at n; cases n
    · rw [c] at n; cases n
    · rw [w_01.1] at c; cases c
    · rw [w_01.2.1] at c; cases c
  · by_cases g : f < nI 0 ∨ nI 1 < f
    · refine ⟨4000000000000000000 - (-2 : Int32).toInt64, gsRef s 2, h, fun K r => ?_⟩
      rcases r with ⟨n, -⟩ | ⟨-, -, z⟩ | ⟨n1, n2, -⟩ | ⟨n1, n2, -⟩
      · rw [c] at n; cases n
      · exact z
      · exact absurd g (fun q => q.elim n1 n2)
      · exact absurd g (fun q => q.elim n1 n2)
    · by_cases t : (gsT0 s).2.1 = 0 ∨ (gsT1 s).2.1 = 0
      · refine ⟨4000000000000000000 - (-5 : Int32).toInt64, gsRef s 5, h, fun K r => ?_⟩
        rcases r with ⟨n, -⟩ | ⟨-, n, -⟩ | ⟨-, -, -, -, z⟩ | ⟨-, -, n1, n2, -⟩
        · rw [c] at n; cases n
        · exact absurd n g
        · exact z
        · exact absurd t (fun q => q.elim n1 n2)
      · rcases isW_c c with rfl | rfl
        · refine ⟨mnV (gsP0 s) (gsm s) (gsT0 s) (gsT1 s) f, s, h, fun K r => ?_⟩
          rcases r with ⟨n, -⟩ | ⟨-, n, -⟩ | ⟨-, -, -, n, -⟩ | ⟨-, -, -, -, ⟨-, z⟩ | ⟨n, -⟩⟩
          · rw [c] at n; cases n
          · exact absurd n g
          · exact absurd n t
          · exact z
          · exact absurd n w_01.2.2.1
        · refine ⟨mnV (gsP1 s) (gsn s) (gsT1 s) (gsT0 s) f, s, h, fun K r => ?_⟩
          rcases r with ⟨n, -⟩ | ⟨-, n, -⟩ | ⟨-, -, -, n, -⟩ | ⟨-, -, -, -, ⟨n, -⟩ | ⟨-, z⟩⟩
          · rw [c] at n; cases n
          · exact absurd n g
          · exact absurd n t
          · exact absurd n w_01.2.2.2
          · exact z
theorem fn_bal1 {s : GS} {v w : MixV} {j l : Nat} {f : Int32} (h : gInv s) : fnL (fun L => rBal1 s L v w j l f) := by
  by_cases g : f < nI 0 ∨ nI 6 < f
  · refine ⟨4000000000000000000 - (-2 : Int32).toInt64, gsRef s 2, h, fun K r => ?_⟩
    rcases r with ⟨-, z⟩ | ⟨rfl, -⟩ | ⟨rfl, -⟩ | ⟨rfl, -⟩ | ⟨rfl | rfl, -⟩ | ⟨⟨n1, n2, -⟩, -⟩
    · exact z
    · exact absurd g (by decide)
    · exact absurd g (by decide)
    · exact absurd g (by decide)
    · exact absurd g (by decide)
    · exact absurd g (by decide)
    · exact absurd g (fun q => q.elim n1 n2)
  · by_cases g0 : f = 0
    · refine ⟨(nI j).toInt64, s, h, fun K r => ?_⟩
      subst g0
      rcases r with ⟨n, -⟩ | ⟨-, z⟩ | ⟨n, -⟩ | ⟨n, -⟩ | ⟨n | n, -⟩ | ⟨⟨-, -, n, -⟩, -⟩
      · exact absurd n g
      · exact z
      · exact absurd n (by decide)
      · exact absurd n (by decide)
      · exact absurd n (by decide)
      · exact absurd n (by decide)
      · exact absurd rfl n
    · by_cases g1 : f = 1
      · refine ⟨(nI l).toInt64, s, h, fun K r => ?_⟩
        subst g1
        rcases r with ⟨n, -⟩ | ⟨n, -⟩ | ⟨-, z⟩ | ⟨n, -⟩ | ⟨n | n, -⟩ | ⟨⟨-, -, -, n, -⟩, -⟩
        · exact absurd n g
        · exact absurd n g0
        · exact z
        · exact absurd n (by decide)
        · exact absurd n (by decide)
        · exact absurd n (by decide)
        · exact absurd rfl n
      · by_cases g2 : f = 2
        · refine ⟨(nI (kindV (gsm s) (gsn s) v w)).toInt64, s, h, fun K r => ?_⟩
          subst g2
          rcases r with ⟨n, -⟩ | ⟨n, -⟩ | ⟨n, -⟩ | ⟨-, z⟩ | ⟨n | n, -⟩ | ⟨⟨-, -, -, -, n, -⟩, -⟩
          · exact absurd n g
          · exact absurd n g0
          · exact absurd n g1
          · exact z
          · exact absurd n (by decide)
          · exact absurd n (by decide)
          · exact absurd rfl n
        · by_cases g3 : f = 3 ∨ f = 4
          · refine ⟨mnV (gsP0 s) (gsm s) v w (f - nI 3), s, h, fun K r => ?_⟩
            rcases r with ⟨n, -⟩ | ⟨n, -⟩ | ⟨n, -⟩ | ⟨n, -⟩ | ⟨-, z⟩ | ⟨⟨-, -, -, -, -, n1, n2⟩, -⟩
            · exact absurd n g
            · exact absurd n g0
            · exact absurd n g1
            · exact absurd n g2
            · exact z
            · exact absurd g3 (fun q => q.elim n1 n2)
          · refine ⟨mnV (gsP1 s) (gsn s) w v (f - nI 5), s, h, fun K r => ?_⟩
            rcases r with ⟨n, -⟩ | ⟨n, -⟩ | ⟨n, -⟩ | ⟨n, -⟩ | ⟨n, -⟩ | ⟨-, z⟩
            · exact absurd n g
            · exact absurd n g0
            · exact absurd n g1
            · exact absurd n g2
            · exact absurd n g3
            · exact z
theorem fn_balance {s : GS} {b f : Int32} (h : gInv s) : fnL (fun L => rBalance s L b f) := by
  have hc := (gsC_b h.1 h.2.1).1
  by_cases c : b < nI 0 ∨ ∃ bb : Nat, bb < 2 ^ 31 ∧ b = nI bb ∧ pairP (gsCr s) (gsCd s) bb = none
  · refine ⟨4000000000000000000 - (-1 : Int32).toInt64, gsRef s 1, h, fun K r => ?_⟩
    rcases r with ⟨-, z⟩ | ⟨bb, j, l, hb, rfl, hj, hl, hf, hp, -⟩
    · exact z
    · rcases c with c | ⟨b2, hb2, e, n⟩
      · rw [nI_0] at c
        exact absurd c (nI_pos hb)
      · have := (nI_eq hb hb2).mp e
        subst this
        rw [pairP_some hj hl hc.2 hf hp] at n
        cases n
  · obtain ⟨bb, hb, rfl⟩ := b_nat (b := b) (fun q => c (Or.inl (by rw [nI_0]; exact q)))
    cases e : pairP (gsCr s) (gsCd s) bb with
    | none => exact absurd (Or.inr ⟨bb, hb, rfl, e⟩) c
    | some z =>
      obtain ⟨j, l, hj, hl, hf, hp, rfl⟩ := pairP_inv hc.2 e
      obtain ⟨x, s', hi, g⟩ := fn_bal1 (v := (gsCr s).2 j) (w := (gsCd s).2 l) (j := j) (l := l) (f := f) h
      refine ⟨x, s', hi, fun K r => ?_⟩
      rcases r with ⟨n, -⟩ | ⟨b2, j2, l2, hb2, e2, hj2, hl2, hf2, hp2, z⟩
      · exact absurd n c
      · have := (nI_eq hb hb2).mp e2
        subst this
        have q := pairP_some hj2 hl2 hc.2 hf2 hp2
        rw [e] at q
        have q := Option.some.inj q
        have ej : j = j2 := by omega
        have el : l = l2 := by omega
        subst ej el
        exact g K z
theorem j16 {j : Nat} (h1 : 1 ≤ j) (h6 : j ≤ 6) : ¬ (nI (10 + j) ≤ 10 ∨ (16 : Int32) < nI (10 + j)) ∧ ¬ nI (10 + j) = 0 ∧ ¬ nI (10 + j) = 1 ∧ ¬ nI (10 + j) = 2 ∧ ¬ nI (10 + j) = 3 ∧ ¬ nI (10 + j) = 4 := by
  have q : ∀ j, j < 7 → 1 ≤ j → ¬ (nI (10 + j) ≤ 10 ∨ (16 : Int32) < nI (10 + j)) ∧ ¬ nI (10 + j) = 0 ∧ ¬ nI (10 + j) = 1 ∧ ¬ nI (10 + j) = 2 ∧ ¬ nI (10 + j) = 3 ∧ ¬ nI (10 + j) = 4 := by decide
  exact q j (by omega) h1
theorem fn_status {s : GS} {k : Int32} (h : gInv s) : fnI (fun K => rStatus s K k) := by
  by_cases c0 : k = 0
  · refine ⟨nI (gsm s), s, h, fun K r => ?_⟩
    rcases r with ⟨-, z⟩ | ⟨n, -⟩ | ⟨n, -⟩ | ⟨n, -⟩ | ⟨n, -⟩ | ⟨⟨n, -⟩, -⟩
    · exact z
    · rw [c0] at n; exact absurd n (by decide)
    · rw [c0] at n; exact absurd n (by decide)
    · rw [c0] at n; exact absurd n (by decide)
    · rw [c0] at n; exact absurd n (by decide)
    · exact absurd c0 n
  · by_cases c1 : k = 1
    · refine ⟨nI (gsn s), s, h, fun K r => ?_⟩
      rcases r with ⟨n, -⟩ | ⟨-, z⟩ | ⟨n, -⟩ | ⟨n, -⟩ | ⟨n, -⟩ | ⟨⟨-, n, -⟩, -⟩
      · exact absurd n c0
      · exact z
      · rw [c1] at n; exact absurd n (by decide)
      · rw [c1] at n; exact absurd n (by decide)
      · rw [c1] at n; exact absurd n (by decide)
      · exact absurd c1 n
    · by_cases c2 : k = 2
      · refine ⟨gb (zeroB (gsP0 s) (gsP1 s) (gsm s) (gsn s)), s, h, fun K r => ?_⟩
        rcases r with ⟨n, -⟩ | ⟨n, -⟩ | ⟨-, z⟩ | ⟨n, -⟩ | ⟨n, -⟩ | ⟨⟨-, -, n, -⟩, -⟩
        · exact absurd n c0
        · exact absurd n c1
        · exact z
        · rw [c2] at n; exact absurd n (by decide)
        · rw [c2] at n; exact absurd n (by decide)
        · exact absurd c2 n
      · by_cases c3 : k = 3
        · refine ⟨gb (likeB (gsP0 s) (gsP1 s) (gsm s) (gsn s)), s, h, fun K r => ?_⟩
          rcases r with ⟨n, -⟩ | ⟨n, -⟩ | ⟨n, -⟩ | ⟨-, z⟩ | ⟨n, -⟩ | ⟨⟨-, -, -, n, -⟩, -⟩
          · exact absurd n c0
          · exact absurd n c1
          · exact absurd n c2
          · exact z
          · rw [c3] at n; exact absurd n (by decide)
          · exact absurd c3 n
        · by_cases c4 : k = 4
          · refine ⟨nI ((gsCr s).1 + (gsCd s).1), s, h, fun K r => ?_⟩
            rcases r with ⟨n, -⟩ | ⟨n, -⟩ | ⟨n, -⟩ | ⟨n, -⟩ | ⟨-, z⟩ | ⟨⟨-, -, -, -, n⟩, -⟩
            · exact absurd n c0
            · exact absurd n c1
            · exact absurd n c2
            · exact absurd n c3
            · exact z
            · exact absurd c4 n
          · by_cases g : k ≤ 10 ∨ 16 < k
            · refine ⟨-9, s, h, fun K r => ?_⟩
              rcases r with ⟨n, -⟩ | ⟨n, -⟩ | ⟨n, -⟩ | ⟨n, -⟩ | ⟨n, -⟩ | ⟨-, ⟨-, z⟩ | ⟨j, h1, h6, rfl, -⟩⟩
              · exact absurd n c0
              · exact absurd n c1
              · exact absurd n c2
              · exact absurd n c3
              · exact absurd n c4
              · exact z
              · exact absurd g (j16 h1 h6).1
            · obtain ⟨j, h1, h6, rfl⟩ := k10 (k := k) (fun q => g (Or.inl q)) (Int32.not_lt.mp (fun q => g (Or.inr q)))
              refine ⟨gsrf s j, s, h, fun K r => ?_⟩
              rcases r with ⟨n, -⟩ | ⟨n, -⟩ | ⟨n, -⟩ | ⟨n, -⟩ | ⟨n, -⟩ | ⟨-, ⟨n, -⟩ | ⟨j2, h12, h62, e, z⟩⟩
              · exact absurd n c0
              · exact absurd n c1
              · exact absurd n c2
              · exact absurd n c3
              · exact absurd n c4
              · exact absurd n g
              · have := (nI_eq (a := 10 + j) (b := 10 + j2) (by omega) (by omega)).mp e
                have : j = j2 := by omega
                subst this
                exact z
theorem gInv_0 : gInv gs0 := by
  refine ⟨by decide, by decide, fun j hj => ?_, fun j hj => ?_, fun j hj => ?_, fun j hj => ?_, fun x y hx hy o => ⟨rfl, rfl⟩⟩
  · exact bd_0
  · exact bd_0
  · show 0 ≤ (0 : Int32).toInt ∧ (0 : Int32).toInt ≤ 99; decide
  · show 0 ≤ (0 : Int32).toInt ∧ (0 : Int32).toInt ≤ 99; decide
