/-! ===== the reference: listed, without ===== -/
def lsR (X : Nat → Int32) (u i : Nat) : Nat → Int32 := fun p => if p < rnk u i then nI (nth u p) else X p
theorem lsR_0 (X : Nat → Int32) (u : Nat) : lsR X u 0 = X := funext fun p => if_neg (Nat.not_lt_zero p)
theorem lsR_f {X : Nat → Int32} {u i : Nat} (h : u.testBit i = false) : lsR X u (i + 1) = lsR X u i := by
  unfold lsR; rw [rnk_f h]
theorem lsR_t {X : Nat → Int32} {u i : Nat} (hu : u < 16) (hi : i < 4) (h : u.testBit i = true) : gu (lsR X u i) (rnk u i) (nI i) = lsR X u (i + 1) := by
  funext p
  unfold lsR gu
  rw [rnk_t h]
  by_cases e : p = rnk u i
  · subst e
    rw [if_pos rfl, if_pos (by omega), nth_rnk hu hi h]
  · rw [if_neg e]
    show (if p < rnk u i then nI (nth u p) else X p) = _
    by_cases e2 : p < rnk u i
    · rw [if_pos e2, if_pos (by omega)]
    · rw [if_neg e2, if_neg (by omega)]
theorem lsR_at {X : Nat → Int32} {u p : Nat} (hu : u < 16) (h : p < popc u) : lsR X u 4 p = nI (nth u p) := if_pos (by rw [rnk_popc hu]; exact h)
theorem nth_lt (u j : Nat) : nth u j < 4 := by
  unfold nth
  cases e : fst4 (fun k => u.testBit k && decide (rnk u k = j)) with
  | none => show 0 < 4; decide
  | some k => exact (fst4_lt e).1
theorem nth_ok {u z : Nat} (hu : u < 16) (hz : z < popc u) : u.testBit (nth u z) = true ∧ rnk u (nth u z) = z := by
  have q : ∀ u, u < 16 → ∀ z, z < 4 → z < popc u → u.testBit (nth u z) = true ∧ rnk u (nth u z) = z := by decide +kernel
  have l : ∀ u, u < 16 → popc u ≤ 4 := by decide +kernel
  have := l u hu
  exact q u hu z (by omega) hz
/-- places but one -/
def skp (c p : Nat) : Nat := if p < c then p else p + 1
theorem skp_det (c : Nat) : skp c 0 = detA c ∧ skp c 1 = detB c ∧ skp c 2 = detC c := by
  unfold skp detA detB detC
  refine ⟨?_, ?_, ?_⟩ <;> (split <;> rfl)
theorem wo_2 {X : Nat → Int64} {M : Nat → Nat → Int64} {c : Nat} (h : ∀ r p, r < 1 → p < 1 → X (3 * r + p) = M r (skp c p)) : X 0 = detS M c 1 := by
  obtain ⟨a, b, d⟩ := skp_det c
  have e := h 0 0 (by omega) (by omega)
  rw [a] at e
  exact e
theorem wo_3 {X : Nat → Int64} {M : Nat → Nat → Int64} {c : Nat} (h : ∀ r p, r < 2 → p < 2 → X (3 * r + p) = M r (skp c p)) : X 0 * X 4 - X 1 * X 3 = detS M c 2 := by
  obtain ⟨a, b, d⟩ := skp_det c
  rw [show X 0 = _ from h 0 0 (by omega) (by omega), show X 4 = _ from h 1 1 (by omega) (by omega), show X 1 = _ from h 0 1 (by omega) (by omega), show X 3 = _ from h 1 0 (by omega) (by omega), a, b]
  rfl
theorem wo_4 {X : Nat → Int64} {M : Nat → Nat → Int64} {c : Nat} (h : ∀ r p, r < 3 → p < 3 → X (3 * r + p) = M r (skp c p)) : X 0 * (X 4 * X 8 - X 5 * X 7) - X 1 * (X 3 * X 8 - X 5 * X 6) + X 2 * (X 3 * X 7 - X 4 * X 6) = detS M c 3 := by
  obtain ⟨a, b, d⟩ := skp_det c
  rw [show X 0 = _ from h 0 0 (by omega) (by omega), show X 1 = _ from h 0 1 (by omega) (by omega), show X 2 = _ from h 0 2 (by omega) (by omega), show X 3 = _ from h 1 0 (by omega) (by omega), show X 4 = _ from h 1 1 (by omega) (by omega), show X 5 = _ from h 1 2 (by omega) (by omega), show X 6 = _ from h 2 0 (by omega) (by omega), show X 7 = _ from h 2 1 (by omega) (by omega), show X 8 = _ from h 2 2 (by omega) (by omega), a, b, d]
  rfl
set_option maxHeartbeats 4000000 in
set_option maxRecDepth 100000 in
theorem c_X5_listed (l : Launch) {G : gG} {T : gTy} {I : gI} {J : gJ} {Q : gR} {O : gO} {H : Heap} (hP : gP G T I J Q O H) {u a : Nat} (hu : u < 16) (hTa : T a = (2, 4)) : Met l yX5_listed (gw yX5_listed cX5_listed 4 (some (.int))) ({ frames := 0, cells := 0, slots := 0, locals := 0 } : Room) (gPc G H [.int (nI u), .ref a]) (gQc (gF T H) (fun r H1 => r = some (.int (nI (popc u))) ∧ gP G T (gu I a (lsR (I a) u 4)) J Q O H1)) 0 0 (gF T H) := by
  refine g_met [(0, .int (nI u)), (1, .ref a)] (by decide) rfl (by exact Nat.le_of_ble_eq_true rfl) ?_
  intro p e s m below meth c hC hs ls hl
  have hx := hC.1.1
  have hb := hC.1.2.1
  have hS : va_S (gF T H) s.heap H [] := hs ▸ va_S.rf
  have hTA : ∀ q, (T q).1 ≠ 0 → gF T H q := fun q h => Or.inl h
  have hA : ∀ q, s.heap.size ≤ q → gF T H q := fun q h => Or.inr (hs ▸ h)
  generalize hAe : gF T H = A at hS hTA hA ⊢
  refine lv_iconst (v := nI 0) hx hb dX5_listed_0 (by decide) ?_
  refine lv_istore_n (lv' := [(2, .int (nI 0)), (0, .int (nI u)), (1, .ref a)]) hx hb dX5_listed_1 rfl hl (by decide) rfl (fun ls hl => ?_)
  refine lv_iconst (v := nI 0) hx hb dX5_listed_2 (by decide) ?_
  refine lv_istore_n (lv' := [(3, .int (nI 0)), (2, .int (nI 0)), (0, .int (nI u)), (1, .ref a)]) hx hb dX5_listed_3 rfl hl (by decide) rfl (fun ls hl => ?_)
  have L4 : ∀ (n4 : Nat) (q : Nat) (z : Nat) (I9 : gI), 5 ≤ n4 + z → (z ≤ 4) → (q = rnk u z) → (I9 = gu I a (lsR (I a) u z)) → ∀ (Hl : Heap) (lcl : List Loc), gP G T I9 J Q O Hl → va_S A s.heap Hl lcl → ∀ ls : Array Slot, lv_has ls 4 [(0, .int (nI u)), (1, .ref a), (2, .int (nI q)), (3, .int (nI z))] → W p l e ({ frames := 0, cells := 0, slots := 0, locals := 0 } : Room) s m [.int (nI u), .ref a].toArray below meth c Hl lcl 0 0 (MQ below (gQc A (fun r H1 => r = some (.int (nI (popc u))) ∧ gP G T (gu I a (lsR (I a) u 4)) J Q O H1)) [.int (nI u), .ref a].toArray s 0 0 A) (F0 m 4 ls []) := by
    intro n4
    induction n4 with
    | zero => intro q z I9 hn4 hz hq h1; exact absurd hn4 (by omega)
    | succ n4 ih4 =>
      intro q z I9 hn4 hz hq h1 Hl lcl hP hS ls hl
      have rl := rnk_le u z
      refine lv_iload_n hx hb dX5_listed_4 rfl (lv_at hl 3 rfl) ?_
      refine lv_iconst (v := nI 4) hx hb dX5_listed_5 (by decide) ?_
      refine lv_icmp_ge (tgt := 31) hx hb dX5_listed_6 (by decide) (fun c6 => ?_) (fun c6 => ?_)
      · have c6 := (nI_leI (by omega) (by omega)).mp c6
        refine lv_iload_n hx hb dX5_listed_31 rfl (lv_at hl 2 rfl) ?_
        refine g_retci hC hS ?_ dX5_listed_32
        have e : z = 4 := (by omega)
        subst e
        subst h1
        rw [hq, rnk_popc hu]
        exact ⟨rfl, hP⟩
      · have c6 := mt (nI_leI (by omega) (by omega)).mpr c6
        refine lv_iload_n hx hb dX5_listed_9 rfl (lv_at hl 0 rfl) ?_
        refine lv_iload_n hx hb dX5_listed_10 rfl (lv_at hl 3 rfl) ?_
        refine lv_ishr hx hb dX5_listed_11 ?_
        refine lv_iconst (v := nI 1) hx hb dX5_listed_12 (by decide) ?_
        refine lv_iand hx hb dX5_listed_13 ?_
        refine g_topi (y := nI (if u.testBit z then 1 else 0)) (g_bit hu (by omega)) ?_
        refine lv_iconst (v := nI 1) hx hb dX5_listed_14 (by decide) ?_
        refine lv_icmp_ne (tgt := 25) hx hb dX5_listed_15 (by decide) (fun c15 => ?_) (fun c15 => ?_)
        · have c15 : u.testBit z = false := by by_cases h : u.testBit z = true <;> simp_all
          refine lv_iinc (v := nI (z + 1)) (lv' := [(3, .int (nI (z + 1))), (0, .int (nI u)), (1, .ref a), (2, .int (nI q))]) hx hb dX5_listed_25 hl (k := 3) rfl (nI_inc _) (by decide) rfl (fun ls hl => ?_)
          refine lv_goto (tgt := 4) hx hb dX5_listed_28 (by decide) ?_
          exact ih4 q (z + 1) I9 (by omega) (by omega) (by first | (rw [rnk_f c15]; exact hq) | (rw [rnk_t c15, hq])) (by first | (rw [lsR_f c15]; exact h1) | (rw [hI9, h1, au_gu, hq]; exact congrArg _ (lsR_t hu (by omega) c15))) _ _ hP hS ls (lv_sub hl [1, 2, 3, 0] rfl)
        · have c15 : u.testBit z = true := by by_cases h : u.testBit z = true <;> simp_all [nI]
          refine lv_aload_n hx hb dX5_listed_18 rfl (lv_at hl 1 rfl) ?_
          refine lv_iload_n hx hb dX5_listed_19 rfl (lv_at hl 2 rfl) ?_
          refine lv_iload_n hx hb dX5_listed_20 rfl (lv_at hl 3 rfl) ?_
          refine g_iast hC hP hS hTA hTa (vp_in_nI (by omega) (by decide)) dX5_listed_21 (fun H1 locs2 hP hS hz4 => ?_)
          rw [show (nI q).toNatClampNeg = q from nI_clamp (by omega)] at hP
          obtain ⟨I3, hI3, hP⟩ : ∃ X : gI, X = au I9 a q (nI z) ∧ gP G T X J Q O H1 := ⟨_, rfl, hP⟩
          refine lv_iinc (v := nI (q + 1)) (lv' := [(2, .int (nI (q + 1))), (0, .int (nI u)), (1, .ref a), (3, .int (nI z))]) hx hb dX5_listed_22 hl (k := 2) rfl (nI_inc _) (by decide) rfl (fun ls hl => ?_)
          refine lv_iinc (v := nI (z + 1)) (lv' := [(3, .int (nI (z + 1))), (2, .int (nI (q + 1))), (0, .int (nI u)), (1, .ref a)]) hx hb dX5_listed_25 hl (k := 3) rfl (nI_inc _) (by decide) rfl (fun ls hl => ?_)
          refine lv_goto (tgt := 4) hx hb dX5_listed_28 (by decide) ?_
          exact ih4 (q + 1) (z + 1) I3 (by omega) (by omega) (by first | (rw [rnk_f c15]; exact hq) | (rw [rnk_t c15, hq])) (by first | (rw [lsR_f c15]; exact h1) | (rw [hI3, h1, au_gu, hq]; exact congrArg _ (lsR_t hu (by omega) c15))) _ _ hP hS ls (lv_sub hl [2, 3, 1, 0] rfl)
  exact L4 5 0 0 I (by omega) (by omega) rfl (by rw [lsR_0, gu_self]) _ _ hP hS ls (lv_sub hl [2, 3, 1, 0] rfl)
set_option maxHeartbeats 4000000 in
set_option maxRecDepth 100000 in
theorem c_X5_without_0 (l : Launch) {G : gG} {T : gTy} {I : gI} {J : gJ} {Q : gR} {O : gO} {H : Heap} (hP : gP G T I J Q O H) {h : Nat} {st : GS} {u t col kk : Nat} (hm : isMo T O h) (hs0 : moS I h st) (hu : u < 16) (ht : t < 16) (hkk : kk = popc u) (hkt : kk = popc t) (hk1 : 1 ≤ kk ∧ kk ≤ 4) (hch : ∀ j, j < kk → I (h + 13) j = nI (nth u j)) (han : ∀ j, j < kk → I (h + 14) j = nI (nth t j)) (hco : col < kk) : Met l yX5_without (gw yX5_without cX5_without 7 (some (.long))) ({ frames := 1, cells := 0, slots := 0, locals := 23 } : Room) (gPc G H [.ref h, .int (nI 0), .int (nI col), .int (nI kk)]) (gQc (gF T H) (fun r H1 => r = some (.long (detS (gapM (gsP1 st) u t) col (popc u - 1))) ∧ ∃ X : Nat → Int64, gP G T I (gu J (h + 12) X) Q O H1)) 0 0 (gF T H) := by
  refine g_met [(0, .ref h), (1, .int (nI 0)), (2, .int (nI col)), (3, .int (nI kk))] (by decide) rfl (by exact Nat.le_of_ble_eq_true rfl) ?_
  intro p e s m below meth c hC hs ls hl
  have hx := hC.1.1
  have hb := hC.1.2.1
  have hS : va_S (gF T H) s.heap H [] := hs ▸ va_S.rf
  have hTA : ∀ q, (T q).1 ≠ 0 → gF T H q := fun q h => Or.inl h
  have hA : ∀ q, s.heap.size ≤ q → gF T H q := fun q h => Or.inr (hs ▸ h)
  generalize hAe : gF T H = A at hS hTA hA ⊢
  have hms := hs0.1
  have hns := hs0.2.1
  refine lv_iconst (v := nI 0) hx hb dX5_without_0 (by decide) ?_
  refine lv_istore (lv' := [(4, .int (nI 0)), (0, .ref h), (1, .int (nI 0)), (2, .int (nI col)), (3, .int (nI kk))]) hx hb dX5_without_1 hl (by decide) rfl (fun ls hl => ?_)
  have L3 : ∀ (n3 : Nat) (z : Nat) (X : Nat → Int64) (J9 : gJ), 5 ≤ n3 + z → (z ≤ kk - 1) → (J9 = gu J (h + 12) X) → (∀ r p, r < z → p < kk - 1 → X (3 * r + p) = gapM (gsP1 st) u t r (skp col p)) → ∀ (Hl : Heap) (lcl : List Loc), gP G T I J9 Q O Hl → va_S A s.heap Hl lcl → ∀ ls : Array Slot, lv_has ls 7 [(0, .ref h), (1, .int (nI 0)), (2, .int (nI col)), (3, .int (nI kk)), (4, .int (nI z))] → W p l e ({ frames := 1, cells := 0, slots := 0, locals := 23 } : Room) s m [.ref h, .int (nI 0), .int (nI col), .int (nI kk)].toArray below meth c Hl lcl 0 0 (MQ below (gQc A (fun r H1 => r = some (.long (detS (gapM (gsP1 st) u t) col (popc u - 1))) ∧ ∃ X : Nat → Int64, gP G T I (gu J (h + 12) X) Q O H1)) [.ref h, .int (nI 0), .int (nI col), .int (nI kk)].toArray s 0 0 A) (F0 m 3 ls []) := by
    intro n3
    induction n3 with
    | zero => intro z X J9 hn3 hz h1 h2; exact absurd hn3 (by omega)
    | succ n3 ih3 =>
      intro z X J9 hn3 hz h1 h2 Hl lcl hP hS ls hl
      refine lv_iload hx hb dX5_without_3 (lv_at hl 4 rfl) ?_
      refine lv_iload_n hx hb dX5_without_5 rfl (lv_at hl 3 rfl) ?_
      refine lv_iconst (v := nI 1) hx hb dX5_without_6 (by decide) ?_
      refine lv_isub hx hb dX5_without_7 ?_
      refine g_topi (y := nI (kk - 1)) (nI_subn (by omega)) ?_
      refine lv_icmp_ge (tgt := 101) hx hb dX5_without_8 (by decide) (fun c8 => ?_) (fun c8 => ?_)
      · have c8 := (nI_leI (by omega) (by omega)).mp c8
        refine lv_iload_n hx hb dX5_without_101 rfl (lv_at hl 3 rfl) ?_
        refine lv_iconst (v := nI 1) hx hb dX5_without_102 (by decide) ?_
        refine lv_icmp_ne (tgt := 108) hx hb dX5_without_103 (by decide) (fun c103 => ?_) (fun c103 => ?_)
        · have c103 := mt (nI_eq (by omega) (by omega)).mpr c103
          refine lv_iload_n hx hb dX5_without_108 rfl (lv_at hl 3 rfl) ?_
          refine lv_iconst (v := nI 2) hx hb dX5_without_109 (by decide) ?_
          refine lv_icmp_ne (tgt := 120) hx hb dX5_without_110 (by decide) (fun c110 => ?_) (fun c110 => ?_)
          · have c110 := mt (nI_eq (by omega) (by omega)).mpr c110
            refine lv_iload_n hx hb dX5_without_120 rfl (lv_at hl 3 rfl) ?_
            refine lv_iconst (v := nI 3) hx hb dX5_without_121 (by decide) ?_
            refine lv_icmp_ne (tgt := 153) hx hb dX5_without_122 (by decide) (fun c122 => ?_) (fun c122 => ?_)
            · have c122 := mt (nI_eq (by omega) (by omega)).mpr c122
              refine lv_aload_n hx hb dX5_without_153 rfl (lv_at hl 0 rfl) ?_
              refine g_get hC hP hm.1 rfl inX5 14 (by decide) q3_20 hm.2.2.2.2.2.2.2.2.2.2.2.2.1.1 dX5_without_154 ?_
              refine lv_iconst (v := nI 0) hx hb dX5_without_157 (by decide) ?_
              refine g_lald hC hP hm.2.2.2.2.2.2.2.2.2.2.2.2.1.2 (vp_in_nI (by omega) (by decide)) dX5_without_158 ?_
              refine g_topl (y := J9 (h + 12) 0) rfl ?_
              refine lv_aload_n hx hb dX5_without_159 rfl (lv_at hl 0 rfl) ?_
              refine g_get hC hP hm.1 rfl inX5 14 (by decide) q3_20 hm.2.2.2.2.2.2.2.2.2.2.2.2.1.1 dX5_without_160 ?_
              refine lv_iconst (v := nI 4) hx hb dX5_without_163 (by decide) ?_
              refine g_lald hC hP hm.2.2.2.2.2.2.2.2.2.2.2.2.1.2 (vp_in_nI (by omega) (by decide)) dX5_without_164 ?_
              refine g_topl (y := J9 (h + 12) 4) rfl ?_
              refine lv_aload_n hx hb dX5_without_165 rfl (lv_at hl 0 rfl) ?_
              refine g_get hC hP hm.1 rfl inX5 14 (by decide) q3_20 hm.2.2.2.2.2.2.2.2.2.2.2.2.1.1 dX5_without_166 ?_
              refine lv_bipush (v := nI 8) hx hb dX5_without_169 (by decide) ?_
              refine g_lald hC hP hm.2.2.2.2.2.2.2.2.2.2.2.2.1.2 (vp_in_nI (by omega) (by decide)) dX5_without_171 ?_
              refine g_topl (y := J9 (h + 12) 8) rfl ?_
              refine lv_lmul hx hb dX5_without_172 ?_
              refine lv_aload_n hx hb dX5_without_173 rfl (lv_at hl 0 rfl) ?_
              refine g_get hC hP hm.1 rfl inX5 14 (by decide) q3_20 hm.2.2.2.2.2.2.2.2.2.2.2.2.1.1 dX5_without_174 ?_
              refine lv_iconst (v := nI 5) hx hb dX5_without_177 (by decide) ?_
              refine g_lald hC hP hm.2.2.2.2.2.2.2.2.2.2.2.2.1.2 (vp_in_nI (by omega) (by decide)) dX5_without_178 ?_
              refine g_topl (y := J9 (h + 12) 5) rfl ?_
              refine lv_aload_n hx hb dX5_without_179 rfl (lv_at hl 0 rfl) ?_
              refine g_get hC hP hm.1 rfl inX5 14 (by decide) q3_20 hm.2.2.2.2.2.2.2.2.2.2.2.2.1.1 dX5_without_180 ?_
              refine lv_bipush (v := nI 7) hx hb dX5_without_183 (by decide) ?_
              refine g_lald hC hP hm.2.2.2.2.2.2.2.2.2.2.2.2.1.2 (vp_in_nI (by omega) (by decide)) dX5_without_185 ?_
              refine g_topl (y := J9 (h + 12) 7) rfl ?_
              refine lv_lmul hx hb dX5_without_186 ?_
              refine lv_lsub hx hb dX5_without_187 ?_
              refine lv_lmul hx hb dX5_without_188 ?_
              refine lv_aload_n hx hb dX5_without_189 rfl (lv_at hl 0 rfl) ?_
              refine g_get hC hP hm.1 rfl inX5 14 (by decide) q3_20 hm.2.2.2.2.2.2.2.2.2.2.2.2.1.1 dX5_without_190 ?_
              refine lv_iconst (v := nI 1) hx hb dX5_without_193 (by decide) ?_
              refine g_lald hC hP hm.2.2.2.2.2.2.2.2.2.2.2.2.1.2 (vp_in_nI (by omega) (by decide)) dX5_without_194 ?_
              refine g_topl (y := J9 (h + 12) 1) rfl ?_
              refine lv_aload_n hx hb dX5_without_195 rfl (lv_at hl 0 rfl) ?_
              refine g_get hC hP hm.1 rfl inX5 14 (by decide) q3_20 hm.2.2.2.2.2.2.2.2.2.2.2.2.1.1 dX5_without_196 ?_
              refine lv_iconst (v := nI 3) hx hb dX5_without_199 (by decide) ?_
              refine g_lald hC hP hm.2.2.2.2.2.2.2.2.2.2.2.2.1.2 (vp_in_nI (by omega) (by decide)) dX5_without_200 ?_
              refine g_topl (y := J9 (h + 12) 3) rfl ?_
              refine lv_aload_n hx hb dX5_without_201 rfl (lv_at hl 0 rfl) ?_
              refine g_get hC hP hm.1 rfl inX5 14 (by decide) q3_20 hm.2.2.2.2.2.2.2.2.2.2.2.2.1.1 dX5_without_202 ?_
              refine lv_bipush (v := nI 8) hx hb dX5_without_205 (by decide) ?_
              refine g_lald hC hP hm.2.2.2.2.2.2.2.2.2.2.2.2.1.2 (vp_in_nI (by omega) (by decide)) dX5_without_207 ?_
              refine g_topl (y := J9 (h + 12) 8) rfl ?_
              refine lv_lmul hx hb dX5_without_208 ?_
              refine lv_aload_n hx hb dX5_without_209 rfl (lv_at hl 0 rfl) ?_
              refine g_get hC hP hm.1 rfl inX5 14 (by decide) q3_20 hm.2.2.2.2.2.2.2.2.2.2.2.2.1.1 dX5_without_210 ?_
              refine lv_iconst (v := nI 5) hx hb dX5_without_213 (by decide) ?_
              refine g_lald hC hP hm.2.2.2.2.2.2.2.2.2.2.2.2.1.2 (vp_in_nI (by omega) (by decide)) dX5_without_214 ?_
              refine g_topl (y := J9 (h + 12) 5) rfl ?_
              refine lv_aload_n hx hb dX5_without_215 rfl (lv_at hl 0 rfl) ?_
              refine g_get hC hP hm.1 rfl inX5 14 (by decide) q3_20 hm.2.2.2.2.2.2.2.2.2.2.2.2.1.1 dX5_without_216 ?_
              refine lv_bipush (v := nI 6) hx hb dX5_without_219 (by decide) ?_
              refine g_lald hC hP hm.2.2.2.2.2.2.2.2.2.2.2.2.1.2 (vp_in_nI (by omega) (by decide)) dX5_without_221 ?_
              refine g_topl (y := J9 (h + 12) 6) rfl ?_
              refine lv_lmul hx hb dX5_without_222 ?_
              refine lv_lsub hx hb dX5_without_223 ?_
              refine lv_lmul hx hb dX5_without_224 ?_
              refine lv_lsub hx hb dX5_without_225 ?_
              refine lv_aload_n hx hb dX5_without_226 rfl (lv_at hl 0 rfl) ?_
              refine g_get hC hP hm.1 rfl inX5 14 (by decide) q3_20 hm.2.2.2.2.2.2.2.2.2.2.2.2.1.1 dX5_without_227 ?_
              refine lv_iconst (v := nI 2) hx hb dX5_without_230 (by decide) ?_
              refine g_lald hC hP hm.2.2.2.2.2.2.2.2.2.2.2.2.1.2 (vp_in_nI (by omega) (by decide)) dX5_without_231 ?_
              refine g_topl (y := J9 (h + 12) 2) rfl ?_
              refine lv_aload_n hx hb dX5_without_232 rfl (lv_at hl 0 rfl) ?_
              refine g_get hC hP hm.1 rfl inX5 14 (by decide) q3_20 hm.2.2.2.2.2.2.2.2.2.2.2.2.1.1 dX5_without_233 ?_
              refine lv_iconst (v := nI 3) hx hb dX5_without_236 (by decide) ?_
              refine g_lald hC hP hm.2.2.2.2.2.2.2.2.2.2.2.2.1.2 (vp_in_nI (by omega) (by decide)) dX5_without_237 ?_
              refine g_topl (y := J9 (h + 12) 3) rfl ?_
              refine lv_aload_n hx hb dX5_without_238 rfl (lv_at hl 0 rfl) ?_
              refine g_get hC hP hm.1 rfl inX5 14 (by decide) q3_20 hm.2.2.2.2.2.2.2.2.2.2.2.2.1.1 dX5_without_239 ?_
              refine lv_bipush (v := nI 7) hx hb dX5_without_242 (by decide) ?_
              refine g_lald hC hP hm.2.2.2.2.2.2.2.2.2.2.2.2.1.2 (vp_in_nI (by omega) (by decide)) dX5_without_244 ?_
              refine g_topl (y := J9 (h + 12) 7) rfl ?_
              refine lv_lmul hx hb dX5_without_245 ?_
              refine lv_aload_n hx hb dX5_without_246 rfl (lv_at hl 0 rfl) ?_
              refine g_get hC hP hm.1 rfl inX5 14 (by decide) q3_20 hm.2.2.2.2.2.2.2.2.2.2.2.2.1.1 dX5_without_247 ?_
              refine lv_iconst (v := nI 4) hx hb dX5_without_250 (by decide) ?_
              refine g_lald hC hP hm.2.2.2.2.2.2.2.2.2.2.2.2.1.2 (vp_in_nI (by omega) (by decide)) dX5_without_251 ?_
              refine g_topl (y := J9 (h + 12) 4) rfl ?_
              refine lv_aload_n hx hb dX5_without_252 rfl (lv_at hl 0 rfl) ?_
              refine g_get hC hP hm.1 rfl inX5 14 (by decide) q3_20 hm.2.2.2.2.2.2.2.2.2.2.2.2.1.1 dX5_without_253 ?_
              refine lv_bipush (v := nI 6) hx hb dX5_without_256 (by decide) ?_
              refine g_lald hC hP hm.2.2.2.2.2.2.2.2.2.2.2.2.1.2 (vp_in_nI (by omega) (by decide)) dX5_without_258 ?_
              refine g_topl (y := J9 (h + 12) 6) rfl ?_
              refine lv_lmul hx hb dX5_without_259 ?_
              refine lv_lsub hx hb dX5_without_260 ?_
              refine lv_lmul hx hb dX5_without_261 ?_
              refine lv_ladd hx hb dX5_without_262 ?_
              refine g_retcl hC hS ?_ dX5_without_263
              refine ⟨congrArg (fun x => some (Value.long x)) (show _ = detS (gapM (gsP1 st) u t) col (popc u - 1) from by rw [← hkk, show kk = 4 from by omega]; exact wo_4 (X := J9 (h + 12)) (fun r p hr hp => by rw [h1, gu_eq]; exact h2 r p (by omega) (by omega))), X, by rw [← h1]; exact hP⟩
            · have c122 := (nI_eq (by omega) (by omega)).mp c122
              refine lv_aload_n hx hb dX5_without_125 rfl (lv_at hl 0 rfl) ?_
              refine g_get hC hP hm.1 rfl inX5 14 (by decide) q3_20 hm.2.2.2.2.2.2.2.2.2.2.2.2.1.1 dX5_without_126 ?_
              refine lv_iconst (v := nI 0) hx hb dX5_without_129 (by decide) ?_
              refine g_lald hC hP hm.2.2.2.2.2.2.2.2.2.2.2.2.1.2 (vp_in_nI (by omega) (by decide)) dX5_without_130 ?_
              refine g_topl (y := J9 (h + 12) 0) rfl ?_
              refine lv_aload_n hx hb dX5_without_131 rfl (lv_at hl 0 rfl) ?_
              refine g_get hC hP hm.1 rfl inX5 14 (by decide) q3_20 hm.2.2.2.2.2.2.2.2.2.2.2.2.1.1 dX5_without_132 ?_
              refine lv_iconst (v := nI 4) hx hb dX5_without_135 (by decide) ?_
              refine g_lald hC hP hm.2.2.2.2.2.2.2.2.2.2.2.2.1.2 (vp_in_nI (by omega) (by decide)) dX5_without_136 ?_
              refine g_topl (y := J9 (h + 12) 4) rfl ?_
              refine lv_lmul hx hb dX5_without_137 ?_
              refine lv_aload_n hx hb dX5_without_138 rfl (lv_at hl 0 rfl) ?_
              refine g_get hC hP hm.1 rfl inX5 14 (by decide) q3_20 hm.2.2.2.2.2.2.2.2.2.2.2.2.1.1 dX5_without_139 ?_
              refine lv_iconst (v := nI 1) hx hb dX5_without_142 (by decide) ?_
              refine g_lald hC hP hm.2.2.2.2.2.2.2.2.2.2.2.2.1.2 (vp_in_nI (by omega) (by decide)) dX5_without_143 ?_
              refine g_topl (y := J9 (h + 12) 1) rfl ?_
              refine lv_aload_n hx hb dX5_without_144 rfl (lv_at hl 0 rfl) ?_
              refine g_get hC hP hm.1 rfl inX5 14 (by decide) q3_20 hm.2.2.2.2.2.2.2.2.2.2.2.2.1.1 dX5_without_145 ?_
              refine lv_iconst (v := nI 3) hx hb dX5_without_148 (by decide) ?_
              refine g_lald hC hP hm.2.2.2.2.2.2.2.2.2.2.2.2.1.2 (vp_in_nI (by omega) (by decide)) dX5_without_149 ?_
              refine g_topl (y := J9 (h + 12) 3) rfl ?_
              refine lv_lmul hx hb dX5_without_150 ?_
              refine lv_lsub hx hb dX5_without_151 ?_
              refine g_retcl hC hS ?_ dX5_without_152
              refine ⟨congrArg (fun x => some (Value.long x)) (show _ = detS (gapM (gsP1 st) u t) col (popc u - 1) from by rw [← hkk, show kk = 3 from by omega]; exact wo_3 (X := J9 (h + 12)) (fun r p hr hp => by rw [h1, gu_eq]; exact h2 r p (by omega) (by omega))), X, by rw [← h1]; exact hP⟩
          · have c110 := (nI_eq (by omega) (by omega)).mp c110
            refine lv_aload_n hx hb dX5_without_113 rfl (lv_at hl 0 rfl) ?_
            refine g_get hC hP hm.1 rfl inX5 14 (by decide) q3_20 hm.2.2.2.2.2.2.2.2.2.2.2.2.1.1 dX5_without_114 ?_
            refine lv_iconst (v := nI 0) hx hb dX5_without_117 (by decide) ?_
            refine g_lald hC hP hm.2.2.2.2.2.2.2.2.2.2.2.2.1.2 (vp_in_nI (by omega) (by decide)) dX5_without_118 ?_
            refine g_topl (y := J9 (h + 12) 0) rfl ?_
            refine g_retcl hC hS ?_ dX5_without_119
            refine ⟨congrArg (fun x => some (Value.long x)) (show _ = detS (gapM (gsP1 st) u t) col (popc u - 1) from by rw [← hkk, show kk = 2 from by omega]; exact wo_2 (X := J9 (h + 12)) (fun r p hr hp => by rw [h1, gu_eq]; exact h2 r p (by omega) (by omega))), X, by rw [← h1]; exact hP⟩
        · have c103 := (nI_eq (by omega) (by omega)).mp c103
          refine lv_lconst (v := 1) hx hb dX5_without_106 (by decide) ?_
          refine g_retcl hC hS ?_ dX5_without_107
          refine ⟨congrArg (fun x => some (Value.long x)) (show _ = detS (gapM (gsP1 st) u t) col (popc u - 1) from by show (1 : Int64) = detS (gapM (gsP1 st) u t) col (popc u - 1); rw [← hkk, c103]; rfl), X, by rw [← h1]; exact hP⟩
      · have c8 := mt (nI_leI (by omega) (by omega)).mpr c8
        refine lv_iconst (v := nI 0) hx hb dX5_without_11 (by decide) ?_
        refine lv_istore (lv' := [(5, .int (nI 0)), (0, .ref h), (1, .int (nI 0)), (2, .int (nI col)), (3, .int (nI kk)), (4, .int (nI z))]) hx hb dX5_without_12 hl (by decide) rfl (fun ls hl => ?_)
        refine lv_iconst (v := nI 0) hx hb dX5_without_14 (by decide) ?_
        refine lv_istore (lv' := [(6, .int (nI 0)), (5, .int (nI 0)), (0, .ref h), (1, .int (nI 0)), (2, .int (nI col)), (3, .int (nI kk)), (4, .int (nI z))]) hx hb dX5_without_15 hl (by decide) rfl (fun ls hl => ?_)
        have L17 : ∀ (n17 : Nat) (q : Nat) (y : Nat) (X2 : Nat → Int64) (J10 : gJ), 5 ≤ n17 + y → (y ≤ kk) → (y ≤ col → q = y) → (col < y → q = y - 1) → (J10 = gu J (h + 12) X2) → (∀ r p, r < z → p < kk - 1 → X2 (3 * r + p) = gapM (gsP1 st) u t r (skp col p)) → (∀ p, p < q → X2 (3 * z + p) = gapM (gsP1 st) u t z (skp col p)) → ∀ (Hl : Heap) (lcl : List Loc), gP G T I J10 Q O Hl → va_S A s.heap Hl lcl → ∀ ls : Array Slot, lv_has ls 7 [(0, .ref h), (1, .int (nI 0)), (2, .int (nI col)), (3, .int (nI kk)), (4, .int (nI z)), (5, .int (nI q)), (6, .int (nI y))] → W p l e ({ frames := 1, cells := 0, slots := 0, locals := 23 } : Room) s m [.ref h, .int (nI 0), .int (nI col), .int (nI kk)].toArray below meth c Hl lcl 0 0 (MQ below (gQc A (fun r H1 => r = some (.long (detS (gapM (gsP1 st) u t) col (popc u - 1))) ∧ ∃ X : Nat → Int64, gP G T I (gu J (h + 12) X) Q O H1)) [.ref h, .int (nI 0), .int (nI col), .int (nI kk)].toArray s 0 0 A) (F0 m 17 ls []) := by
          intro n17
          induction n17 with
          | zero => intro q y X2 J10 hn17 hy hq1 hq2 g1 g2 g3; exact absurd hn17 (by omega)
          | succ n17 ih17 =>
            intro q y X2 J10 hn17 hy hq1 hq2 g1 g2 g3 Hl lcl hP hS ls hl
            refine lv_iload hx hb dX5_without_17 (lv_at hl 6 rfl) ?_
            refine lv_iload_n hx hb dX5_without_19 rfl (lv_at hl 3 rfl) ?_
            refine lv_icmp_ge (tgt := 95) hx hb dX5_without_20 (by decide) (fun c20 => ?_) (fun c20 => ?_)
            · have c20 := (nI_leI (by omega) (by omega)).mp c20
              refine lv_iinc (v := nI (z + 1)) (lv' := [(4, .int (nI (z + 1))), (0, .ref h), (1, .int (nI 0)), (2, .int (nI col)), (3, .int (nI kk)), (5, .int (nI q)), (6, .int (nI y))]) hx hb dX5_without_95 hl (k := 4) rfl (nI_inc _) (by decide) rfl (fun ls hl => ?_)
              refine lv_goto (tgt := 3) hx hb dX5_without_98 (by decide) ?_
              exact ih3 (z + 1) X2 J10 (by omega) (by omega) g1 (fun r p hr hp => by rcases Nat.lt_succ_iff_lt_or_eq.mp hr with hh | rfl; (exact g2 r p hh hp); (exact g3 p (by omega))) _ _ hP hS ls (lv_sub hl [1, 2, 3, 4, 0] rfl)
            · have c20 := mt (nI_leI (by omega) (by omega)).mpr c20
              refine lv_iload hx hb dX5_without_23 (lv_at hl 6 rfl) ?_
              refine lv_iload_n hx hb dX5_without_25 rfl (lv_at hl 2 rfl) ?_
              refine lv_icmp_eq (tgt := 89) hx hb dX5_without_26 (by decide) (fun c26 => ?_) (fun c26 => ?_)
              · have c26 := (nI_eq (by omega) (by omega)).mp c26
                refine lv_iinc (v := nI (y + 1)) (lv' := [(6, .int (nI (y + 1))), (0, .ref h), (1, .int (nI 0)), (2, .int (nI col)), (3, .int (nI kk)), (4, .int (nI z)), (5, .int (nI q))]) hx hb dX5_without_89 hl (k := 6) rfl (nI_inc _) (by decide) rfl (fun ls hl => ?_)
                refine lv_goto (tgt := 17) hx hb dX5_without_92 (by decide) ?_
                exact ih17 q (y + 1) X2 J10 (by omega) (by omega) (by omega) (by omega) (by first | exact g1 | (rw [hJ10, g1, au_gu]; rfl)) (by first | exact g2 | exact (fun r p hr hp => by rw [gu_ne _ _ (by omega)]; exact g2 r p hr hp)) (by first | exact g3 | exact (fun p hp => by by_cases e : p = q; (subst e; rw [gu_eq]; unfold skp; by_cases e2 : p < col; (rw [if_pos e2, show y = p from by omega]); (rw [if_neg e2, show y = p + 1 from by omega])); (rw [gu_ne _ _ (by omega)]; exact g3 p (by omega)))) _ _ hP hS ls (lv_sub hl [1, 2, 3, 4, 5, 6, 0] rfl)
              · have c26 := mt (nI_eq (by omega) (by omega)).mpr c26
                refine lv_aload_n hx hb dX5_without_29 rfl (lv_at hl 0 rfl) ?_
                refine g_get hC hP hm.1 rfl inX5 14 (by decide) q3_20 hm.2.2.2.2.2.2.2.2.2.2.2.2.1.1 dX5_without_30 ?_
                refine lv_iconst (v := nI 3) hx hb dX5_without_33 (by decide) ?_
                refine lv_iload hx hb dX5_without_34 (lv_at hl 4 rfl) ?_
                refine lv_imul hx hb dX5_without_36 ?_
                refine g_topi (y := nI (3 * z)) (nI_mul _ _) ?_
                refine lv_iload hx hb dX5_without_37 (lv_at hl 5 rfl) ?_
                refine lv_iadd hx hb dX5_without_39 ?_
                refine g_topi (y := nI (3 * z + q)) (nI_add _ _) ?_
                refine lv_aload_n hx hb dX5_without_40 rfl (lv_at hl 0 rfl) ?_
                refine lv_iconst (v := nI 1) hx hb dX5_without_41 (by decide) ?_
                refine lv_iload_n hx hb dX5_without_42 rfl (lv_at hl 1 rfl) ?_
                refine lv_isub hx hb dX5_without_43 ?_
                refine g_topi (y := nI 1) (by decide) ?_
                refine lv_aload_n hx hb dX5_without_44 rfl (lv_at hl 0 rfl) ?_
                refine g_get hC hP hm.1 rfl inX5 16 (by decide) q3_22 hm.2.2.2.2.2.2.2.2.2.2.2.2.2.2.1.1 dX5_without_45 ?_
                refine lv_iload hx hb dX5_without_48 (lv_at hl 4 rfl) ?_
                refine lv_iconst (v := nI 1) hx hb dX5_without_50 (by decide) ?_
                refine lv_iadd hx hb dX5_without_51 ?_
                refine g_topi (y := nI (z + 1)) (nI_add _ _) ?_
                refine g_iald hC hP hm.2.2.2.2.2.2.2.2.2.2.2.2.2.2.1.2 (vp_in_nI (by omega) (by decide)) dX5_without_52 ?_
                refine g_topi (y := nI (nth t (z + 1))) ((congrArg (I (h + 14)) (nI_clamp (by omega))).trans (han (z + 1) (by omega))) ?_
                refine lv_aload_n hx hb dX5_without_53 rfl (lv_at hl 0 rfl) ?_
                refine g_get hC hP hm.1 rfl inX5 15 (by decide) q3_21 hm.2.2.2.2.2.2.2.2.2.2.2.2.2.1.1 dX5_without_54 ?_
                refine lv_iload hx hb dX5_without_57 (lv_at hl 6 rfl) ?_
                refine g_iald hC hP hm.2.2.2.2.2.2.2.2.2.2.2.2.2.1.2 (vp_in_nI (by omega) (by decide)) dX5_without_59 ?_
                refine g_topi (y := nI (nth u y)) ((congrArg (I (h + 13)) (nI_clamp (by omega))).trans (hch y (by omega))) ?_
                refine g_cp (g_rV (As := [.int (nI 1), .int (nI (nth t (z + 1))), .int (nI (nth u y))]) hC hP (c_X5_get l hP (h := h) (w := 1) (i := nth t (z + 1)) (k := nth u y) (by first | assumption | omega) (by first | assumption | omega) (by first | assumption | omega) (nth_lt _ _) (nth_lt _ _)) hm.1 rfl ⟨q3_139, q3_136, q3_138, qs_34, q1_6⟩ dd_X5_get ⟨Nat.le_of_ble_eq_true rfl, Nat.le_of_ble_eq_true rfl, rfl, rfl⟩ hl.1 rfl (Nat.le_of_ble_eq_true rfl) dX5_without_60 ⟨Nat.le_of_ble_eq_true rfl, Nat.le_of_ble_eq_true rfl⟩) ?_
                refine W.eq (g2 := F0 m 63 ls [.int (gsP1 st ((nth t (z + 1)) * 4 + (nth u y))), .int (nI (3 * z + q)), .ref (h + 12)]) rfl ?_
                refine lv_aload_n hx hb dX5_without_63 rfl (lv_at hl 0 rfl) ?_
                refine lv_iconst (v := nI 1) hx hb dX5_without_64 (by decide) ?_
                refine lv_iload_n hx hb dX5_without_65 rfl (lv_at hl 1 rfl) ?_
                refine lv_isub hx hb dX5_without_66 ?_
                refine g_topi (y := nI 1) (by decide) ?_
                refine lv_aload_n hx hb dX5_without_67 rfl (lv_at hl 0 rfl) ?_
                refine g_get hC hP hm.1 rfl inX5 16 (by decide) q3_22 hm.2.2.2.2.2.2.2.2.2.2.2.2.2.2.1.1 dX5_without_68 ?_
                refine lv_iconst (v := nI 0) hx hb dX5_without_71 (by decide) ?_
                refine g_iald hC hP hm.2.2.2.2.2.2.2.2.2.2.2.2.2.2.1.2 (vp_in_nI (by omega) (by decide)) dX5_without_72 ?_
                refine g_topi (y := nI (nth t 0)) (han 0 (by omega)) ?_
                refine lv_aload_n hx hb dX5_without_73 rfl (lv_at hl 0 rfl) ?_
                refine g_get hC hP hm.1 rfl inX5 15 (by decide) q3_21 hm.2.2.2.2.2.2.2.2.2.2.2.2.2.1.1 dX5_without_74 ?_
                refine lv_iload hx hb dX5_without_77 (lv_at hl 6 rfl) ?_
                refine g_iald hC hP hm.2.2.2.2.2.2.2.2.2.2.2.2.2.1.2 (vp_in_nI (by omega) (by decide)) dX5_without_79 ?_
                refine g_topi (y := nI (nth u y)) ((congrArg (I (h + 13)) (nI_clamp (by omega))).trans (hch y (by omega))) ?_
                refine g_cp (g_rV (As := [.int (nI 1), .int (nI (nth t 0)), .int (nI (nth u y))]) hC hP (c_X5_get l hP (h := h) (w := 1) (i := nth t 0) (k := nth u y) (by first | assumption | omega) (by first | assumption | omega) (by first | assumption | omega) (nth_lt _ _) (nth_lt _ _)) hm.1 rfl ⟨q3_139, q3_136, q3_138, qs_34, q1_6⟩ dd_X5_get ⟨Nat.le_of_ble_eq_true rfl, Nat.le_of_ble_eq_true rfl, rfl, rfl⟩ hl.1 rfl (Nat.le_of_ble_eq_true rfl) dX5_without_80 ⟨Nat.le_of_ble_eq_true rfl, Nat.le_of_ble_eq_true rfl⟩) ?_
                refine W.eq (g2 := F0 m 83 ls [.int (gsP1 st ((nth t 0) * 4 + (nth u y))), .int (gsP1 st ((nth t (z + 1)) * 4 + (nth u y))), .int (nI (3 * z + q)), .ref (h + 12)]) rfl ?_
                refine lv_isub hx hb dX5_without_83 ?_
                refine lv_i2l hx hb dX5_without_84 rfl ?_
                refine g_last hC hP hS hTA hm.2.2.2.2.2.2.2.2.2.2.2.2.1.2 (vp_in_nI (by omega) (by decide)) dX5_without_85 (fun H1 locs2 hP hS hz4 => ?_)
                rw [show (nI (3 * z + q)).toNatClampNeg = 3 * z + q from nI_clamp (by omega)] at hP
                obtain ⟨J3, hJ3, hP⟩ : ∃ X : gJ, X = au J10 (h + 12) (3 * z + q) (((gsP1 st ((nth t (z + 1)) * 4 + (nth u y))) - (gsP1 st ((nth t 0) * 4 + (nth u y)))).toInt64) ∧ gP G T I X Q O H1 := ⟨_, rfl, hP⟩
                refine lv_iinc (v := nI (q + 1)) (lv' := [(5, .int (nI (q + 1))), (0, .ref h), (1, .int (nI 0)), (2, .int (nI col)), (3, .int (nI kk)), (4, .int (nI z)), (6, .int (nI y))]) hx hb dX5_without_86 hl (k := 5) rfl (nI_inc _) (by decide) rfl (fun ls hl => ?_)
                refine lv_iinc (v := nI (y + 1)) (lv' := [(6, .int (nI (y + 1))), (5, .int (nI (q + 1))), (0, .ref h), (1, .int (nI 0)), (2, .int (nI col)), (3, .int (nI kk)), (4, .int (nI z))]) hx hb dX5_without_89 hl (k := 6) rfl (nI_inc _) (by decide) rfl (fun ls hl => ?_)
                refine lv_goto (tgt := 17) hx hb dX5_without_92 (by decide) ?_
                exact ih17 (q + 1) (y + 1) (gu X2 (3 * z + q) ((gapM (gsP1 st) u t) z y)) J3 (by omega) (by omega) (by omega) (by omega) (by first | exact g1 | (rw [hJ3, g1, au_gu]; rfl)) (by first | exact g2 | exact (fun r p hr hp => by rw [gu_ne _ _ (by omega)]; exact g2 r p hr hp)) (by first | exact g3 | exact (fun p hp => by by_cases e : p = q; (subst e; rw [gu_eq]; unfold skp; by_cases e2 : p < col; (rw [if_pos e2, show y = p from by omega]); (rw [if_neg e2, show y = p + 1 from by omega])); (rw [gu_ne _ _ (by omega)]; exact g3 p (by omega)))) _ _ hP hS ls (lv_sub hl [2, 3, 4, 5, 6, 1, 0] rfl)
        exact L17 5 0 0 X J9 (by omega) (by omega) (by omega) (by omega) h1 h2 (fun p hp => absurd hp (Nat.not_lt_zero p)) _ _ hP hS ls (lv_sub hl [2, 3, 4, 5, 6, 1, 0] rfl)
  exact L3 5 0 (J (h + 12)) J (by omega) (by omega) (gu_self _ _).symm (fun r p hr => absurd hr (Nat.not_lt_zero r)) _ _ hP hS ls (lv_sub hl [1, 2, 3, 4, 0] rfl)
set_option maxHeartbeats 4000000 in
set_option maxRecDepth 100000 in
theorem c_X5_without_1 (l : Launch) {G : gG} {T : gTy} {I : gI} {J : gJ} {Q : gR} {O : gO} {H : Heap} (hP : gP G T I J Q O H) {h : Nat} {st : GS} {u t col kk : Nat} (hm : isMo T O h) (hs0 : moS I h st) (hu : u < 16) (ht : t < 16) (hkk : kk = popc u) (hkt : kk = popc t) (hk1 : 1 ≤ kk ∧ kk ≤ 4) (hch : ∀ j, j < kk → I (h + 13) j = nI (nth u j)) (han : ∀ j, j < kk → I (h + 14) j = nI (nth t j)) (hco : col < kk) : Met l yX5_without (gw yX5_without cX5_without 7 (some (.long))) ({ frames := 1, cells := 0, slots := 0, locals := 23 } : Room) (gPc G H [.ref h, .int (nI 1), .int (nI col), .int (nI kk)]) (gQc (gF T H) (fun r H1 => r = some (.long (detS (gapM (gsP0 st) u t) col (popc u - 1))) ∧ ∃ X : Nat → Int64, gP G T I (gu J (h + 12) X) Q O H1)) 0 0 (gF T H) := by
  refine g_met [(0, .ref h), (1, .int (nI 1)), (2, .int (nI col)), (3, .int (nI kk))] (by decide) rfl (by exact Nat.le_of_ble_eq_true rfl) ?_
  intro p e s m below meth c hC hs ls hl
  have hx := hC.1.1
  have hb := hC.1.2.1
  have hS : va_S (gF T H) s.heap H [] := hs ▸ va_S.rf
  have hTA : ∀ q, (T q).1 ≠ 0 → gF T H q := fun q h => Or.inl h
  have hA : ∀ q, s.heap.size ≤ q → gF T H q := fun q h => Or.inr (hs ▸ h)
  generalize hAe : gF T H = A at hS hTA hA ⊢
  have hms := hs0.1
  have hns := hs0.2.1
  refine lv_iconst (v := nI 0) hx hb dX5_without_0 (by decide) ?_
  refine lv_istore (lv' := [(4, .int (nI 0)), (0, .ref h), (1, .int (nI 1)), (2, .int (nI col)), (3, .int (nI kk))]) hx hb dX5_without_1 hl (by decide) rfl (fun ls hl => ?_)
  have L3 : ∀ (n3 : Nat) (z : Nat) (X : Nat → Int64) (J9 : gJ), 5 ≤ n3 + z → (z ≤ kk - 1) → (J9 = gu J (h + 12) X) → (∀ r p, r < z → p < kk - 1 → X (3 * r + p) = gapM (gsP0 st) u t r (skp col p)) → ∀ (Hl : Heap) (lcl : List Loc), gP G T I J9 Q O Hl → va_S A s.heap Hl lcl → ∀ ls : Array Slot, lv_has ls 7 [(0, .ref h), (1, .int (nI 1)), (2, .int (nI col)), (3, .int (nI kk)), (4, .int (nI z))] → W p l e ({ frames := 1, cells := 0, slots := 0, locals := 23 } : Room) s m [.ref h, .int (nI 1), .int (nI col), .int (nI kk)].toArray below meth c Hl lcl 0 0 (MQ below (gQc A (fun r H1 => r = some (.long (detS (gapM (gsP0 st) u t) col (popc u - 1))) ∧ ∃ X : Nat → Int64, gP G T I (gu J (h + 12) X) Q O H1)) [.ref h, .int (nI 1), .int (nI col), .int (nI kk)].toArray s 0 0 A) (F0 m 3 ls []) := by
    intro n3
    induction n3 with
    | zero => intro z X J9 hn3 hz h1 h2; exact absurd hn3 (by omega)
    | succ n3 ih3 =>
      intro z X J9 hn3 hz h1 h2 Hl lcl hP hS ls hl
      refine lv_iload hx hb dX5_without_3 (lv_at hl 4 rfl) ?_
      refine lv_iload_n hx hb dX5_without_5 rfl (lv_at hl 3 rfl) ?_
      refine lv_iconst (v := nI 1) hx hb dX5_without_6 (by decide) ?_
      refine lv_isub hx hb dX5_without_7 ?_
      refine g_topi (y := nI (kk - 1)) (nI_subn (by omega)) ?_
      refine lv_icmp_ge (tgt := 101) hx hb dX5_without_8 (by decide) (fun c8 => ?_) (fun c8 => ?_)
      · have c8 := (nI_leI (by omega) (by omega)).mp c8
        refine lv_iload_n hx hb dX5_without_101 rfl (lv_at hl 3 rfl) ?_
        refine lv_iconst (v := nI 1) hx hb dX5_without_102 (by decide) ?_
        refine lv_icmp_ne (tgt := 108) hx hb dX5_without_103 (by decide) (fun c103 => ?_) (fun c103 => ?_)
        · have c103 := mt (nI_eq (by omega) (by omega)).mpr c103
          refine lv_iload_n hx hb dX5_without_108 rfl (lv_at hl 3 rfl) ?_
          refine lv_iconst (v := nI 2) hx hb dX5_without_109 (by decide) ?_
          refine lv_icmp_ne (tgt := 120) hx hb dX5_without_110 (by decide) (fun c110 => ?_) (fun c110 => ?_)
          · have c110 := mt (nI_eq (by omega) (by omega)).mpr c110
            refine lv_iload_n hx hb dX5_without_120 rfl (lv_at hl 3 rfl) ?_
            refine lv_iconst (v := nI 3) hx hb dX5_without_121 (by decide) ?_
            refine lv_icmp_ne (tgt := 153) hx hb dX5_without_122 (by decide) (fun c122 => ?_) (fun c122 => ?_)
            · have c122 := mt (nI_eq (by omega) (by omega)).mpr c122
              refine lv_aload_n hx hb dX5_without_153 rfl (lv_at hl 0 rfl) ?_
              refine g_get hC hP hm.1 rfl inX5 14 (by decide) q3_20 hm.2.2.2.2.2.2.2.2.2.2.2.2.1.1 dX5_without_154 ?_
              refine lv_iconst (v := nI 0) hx hb dX5_without_157 (by decide) ?_
              refine g_lald hC hP hm.2.2.2.2.2.2.2.2.2.2.2.2.1.2 (vp_in_nI (by omega) (by decide)) dX5_without_158 ?_
              refine g_topl (y := J9 (h + 12) 0) rfl ?_
              refine lv_aload_n hx hb dX5_without_159 rfl (lv_at hl 0 rfl) ?_
              refine g_get hC hP hm.1 rfl inX5 14 (by decide) q3_20 hm.2.2.2.2.2.2.2.2.2.2.2.2.1.1 dX5_without_160 ?_
              refine lv_iconst (v := nI 4) hx hb dX5_without_163 (by decide) ?_
              refine g_lald hC hP hm.2.2.2.2.2.2.2.2.2.2.2.2.1.2 (vp_in_nI (by omega) (by decide)) dX5_without_164 ?_
              refine g_topl (y := J9 (h + 12) 4) rfl ?_
              refine lv_aload_n hx hb dX5_without_165 rfl (lv_at hl 0 rfl) ?_
              refine g_get hC hP hm.1 rfl inX5 14 (by decide) q3_20 hm.2.2.2.2.2.2.2.2.2.2.2.2.1.1 dX5_without_166 ?_
              refine lv_bipush (v := nI 8) hx hb dX5_without_169 (by decide) ?_
              refine g_lald hC hP hm.2.2.2.2.2.2.2.2.2.2.2.2.1.2 (vp_in_nI (by omega) (by decide)) dX5_without_171 ?_
              refine g_topl (y := J9 (h + 12) 8) rfl ?_
              refine lv_lmul hx hb dX5_without_172 ?_
              refine lv_aload_n hx hb dX5_without_173 rfl (lv_at hl 0 rfl) ?_
              refine g_get hC hP hm.1 rfl inX5 14 (by decide) q3_20 hm.2.2.2.2.2.2.2.2.2.2.2.2.1.1 dX5_without_174 ?_
              refine lv_iconst (v := nI 5) hx hb dX5_without_177 (by decide) ?_
              refine g_lald hC hP hm.2.2.2.2.2.2.2.2.2.2.2.2.1.2 (vp_in_nI (by omega) (by decide)) dX5_without_178 ?_
              refine g_topl (y := J9 (h + 12) 5) rfl ?_
              refine lv_aload_n hx hb dX5_without_179 rfl (lv_at hl 0 rfl) ?_
              refine g_get hC hP hm.1 rfl inX5 14 (by decide) q3_20 hm.2.2.2.2.2.2.2.2.2.2.2.2.1.1 dX5_without_180 ?_
              refine lv_bipush (v := nI 7) hx hb dX5_without_183 (by decide) ?_
              refine g_lald hC hP hm.2.2.2.2.2.2.2.2.2.2.2.2.1.2 (vp_in_nI (by omega) (by decide)) dX5_without_185 ?_
              refine g_topl (y := J9 (h + 12) 7) rfl ?_
              refine lv_lmul hx hb dX5_without_186 ?_
              refine lv_lsub hx hb dX5_without_187 ?_
              refine lv_lmul hx hb dX5_without_188 ?_
              refine lv_aload_n hx hb dX5_without_189 rfl (lv_at hl 0 rfl) ?_
              refine g_get hC hP hm.1 rfl inX5 14 (by decide) q3_20 hm.2.2.2.2.2.2.2.2.2.2.2.2.1.1 dX5_without_190 ?_
              refine lv_iconst (v := nI 1) hx hb dX5_without_193 (by decide) ?_
              refine g_lald hC hP hm.2.2.2.2.2.2.2.2.2.2.2.2.1.2 (vp_in_nI (by omega) (by decide)) dX5_without_194 ?_
              refine g_topl (y := J9 (h + 12) 1) rfl ?_
              refine lv_aload_n hx hb dX5_without_195 rfl (lv_at hl 0 rfl) ?_
              refine g_get hC hP hm.1 rfl inX5 14 (by decide) q3_20 hm.2.2.2.2.2.2.2.2.2.2.2.2.1.1 dX5_without_196 ?_
              refine lv_iconst (v := nI 3) hx hb dX5_without_199 (by decide) ?_
              refine g_lald hC hP hm.2.2.2.2.2.2.2.2.2.2.2.2.1.2 (vp_in_nI (by omega) (by decide)) dX5_without_200 ?_
              refine g_topl (y := J9 (h + 12) 3) rfl ?_
              refine lv_aload_n hx hb dX5_without_201 rfl (lv_at hl 0 rfl) ?_
              refine g_get hC hP hm.1 rfl inX5 14 (by decide) q3_20 hm.2.2.2.2.2.2.2.2.2.2.2.2.1.1 dX5_without_202 ?_
              refine lv_bipush (v := nI 8) hx hb dX5_without_205 (by decide) ?_
              refine g_lald hC hP hm.2.2.2.2.2.2.2.2.2.2.2.2.1.2 (vp_in_nI (by omega) (by decide)) dX5_without_207 ?_
              refine g_topl (y := J9 (h + 12) 8) rfl ?_
              refine lv_lmul hx hb dX5_without_208 ?_
              refine lv_aload_n hx hb dX5_without_209 rfl (lv_at hl 0 rfl) ?_
              refine g_get hC hP hm.1 rfl inX5 14 (by decide) q3_20 hm.2.2.2.2.2.2.2.2.2.2.2.2.1.1 dX5_without_210 ?_
              refine lv_iconst (v := nI 5) hx hb dX5_without_213 (by decide) ?_
              refine g_lald hC hP hm.2.2.2.2.2.2.2.2.2.2.2.2.1.2 (vp_in_nI (by omega) (by decide)) dX5_without_214 ?_
              refine g_topl (y := J9 (h + 12) 5) rfl ?_
              refine lv_aload_n hx hb dX5_without_215 rfl (lv_at hl 0 rfl) ?_
              refine g_get hC hP hm.1 rfl inX5 14 (by decide) q3_20 hm.2.2.2.2.2.2.2.2.2.2.2.2.1.1 dX5_without_216 ?_
              refine lv_bipush (v := nI 6) hx hb dX5_without_219 (by decide) ?_
              refine g_lald hC hP hm.2.2.2.2.2.2.2.2.2.2.2.2.1.2 (vp_in_nI (by omega) (by decide)) dX5_without_221 ?_
              refine g_topl (y := J9 (h + 12) 6) rfl ?_
              refine lv_lmul hx hb dX5_without_222 ?_
              refine lv_lsub hx hb dX5_without_223 ?_
              refine lv_lmul hx hb dX5_without_224 ?_
              refine lv_lsub hx hb dX5_without_225 ?_
              refine lv_aload_n hx hb dX5_without_226 rfl (lv_at hl 0 rfl) ?_
              refine g_get hC hP hm.1 rfl inX5 14 (by decide) q3_20 hm.2.2.2.2.2.2.2.2.2.2.2.2.1.1 dX5_without_227 ?_
              refine lv_iconst (v := nI 2) hx hb dX5_without_230 (by decide) ?_
              refine g_lald hC hP hm.2.2.2.2.2.2.2.2.2.2.2.2.1.2 (vp_in_nI (by omega) (by decide)) dX5_without_231 ?_
              refine g_topl (y := J9 (h + 12) 2) rfl ?_
              refine lv_aload_n hx hb dX5_without_232 rfl (lv_at hl 0 rfl) ?_
              refine g_get hC hP hm.1 rfl inX5 14 (by decide) q3_20 hm.2.2.2.2.2.2.2.2.2.2.2.2.1.1 dX5_without_233 ?_
              refine lv_iconst (v := nI 3) hx hb dX5_without_236 (by decide) ?_
              refine g_lald hC hP hm.2.2.2.2.2.2.2.2.2.2.2.2.1.2 (vp_in_nI (by omega) (by decide)) dX5_without_237 ?_
              refine g_topl (y := J9 (h + 12) 3) rfl ?_
              refine lv_aload_n hx hb dX5_without_238 rfl (lv_at hl 0 rfl) ?_
              refine g_get hC hP hm.1 rfl inX5 14 (by decide) q3_20 hm.2.2.2.2.2.2.2.2.2.2.2.2.1.1 dX5_without_239 ?_
              refine lv_bipush (v := nI 7) hx hb dX5_without_242 (by decide) ?_
              refine g_lald hC hP hm.2.2.2.2.2.2.2.2.2.2.2.2.1.2 (vp_in_nI (by omega) (by decide)) dX5_without_244 ?_
              refine g_topl (y := J9 (h + 12) 7) rfl ?_
              refine lv_lmul hx hb dX5_without_245 ?_
              refine lv_aload_n hx hb dX5_without_246 rfl (lv_at hl 0 rfl) ?_
              refine g_get hC hP hm.1 rfl inX5 14 (by decide) q3_20 hm.2.2.2.2.2.2.2.2.2.2.2.2.1.1 dX5_without_247 ?_
              refine lv_iconst (v := nI 4) hx hb dX5_without_250 (by decide) ?_
              refine g_lald hC hP hm.2.2.2.2.2.2.2.2.2.2.2.2.1.2 (vp_in_nI (by omega) (by decide)) dX5_without_251 ?_
              refine g_topl (y := J9 (h + 12) 4) rfl ?_
              refine lv_aload_n hx hb dX5_without_252 rfl (lv_at hl 0 rfl) ?_
              refine g_get hC hP hm.1 rfl inX5 14 (by decide) q3_20 hm.2.2.2.2.2.2.2.2.2.2.2.2.1.1 dX5_without_253 ?_
              refine lv_bipush (v := nI 6) hx hb dX5_without_256 (by decide) ?_
              refine g_lald hC hP hm.2.2.2.2.2.2.2.2.2.2.2.2.1.2 (vp_in_nI (by omega) (by decide)) dX5_without_258 ?_
              refine g_topl (y := J9 (h + 12) 6) rfl ?_
              refine lv_lmul hx hb dX5_without_259 ?_
              refine lv_lsub hx hb dX5_without_260 ?_
              refine lv_lmul hx hb dX5_without_261 ?_
              refine lv_ladd hx hb dX5_without_262 ?_
              refine g_retcl hC hS ?_ dX5_without_263
              refine ⟨congrArg (fun x => some (Value.long x)) (show _ = detS (gapM (gsP0 st) u t) col (popc u - 1) from by rw [← hkk, show kk = 4 from by omega]; exact wo_4 (X := J9 (h + 12)) (fun r p hr hp => by rw [h1, gu_eq]; exact h2 r p (by omega) (by omega))), X, by rw [← h1]; exact hP⟩
            · have c122 := (nI_eq (by omega) (by omega)).mp c122
              refine lv_aload_n hx hb dX5_without_125 rfl (lv_at hl 0 rfl) ?_
              refine g_get hC hP hm.1 rfl inX5 14 (by decide) q3_20 hm.2.2.2.2.2.2.2.2.2.2.2.2.1.1 dX5_without_126 ?_
              refine lv_iconst (v := nI 0) hx hb dX5_without_129 (by decide) ?_
              refine g_lald hC hP hm.2.2.2.2.2.2.2.2.2.2.2.2.1.2 (vp_in_nI (by omega) (by decide)) dX5_without_130 ?_
              refine g_topl (y := J9 (h + 12) 0) rfl ?_
              refine lv_aload_n hx hb dX5_without_131 rfl (lv_at hl 0 rfl) ?_
              refine g_get hC hP hm.1 rfl inX5 14 (by decide) q3_20 hm.2.2.2.2.2.2.2.2.2.2.2.2.1.1 dX5_without_132 ?_
              refine lv_iconst (v := nI 4) hx hb dX5_without_135 (by decide) ?_
              refine g_lald hC hP hm.2.2.2.2.2.2.2.2.2.2.2.2.1.2 (vp_in_nI (by omega) (by decide)) dX5_without_136 ?_
              refine g_topl (y := J9 (h + 12) 4) rfl ?_
              refine lv_lmul hx hb dX5_without_137 ?_
              refine lv_aload_n hx hb dX5_without_138 rfl (lv_at hl 0 rfl) ?_
              refine g_get hC hP hm.1 rfl inX5 14 (by decide) q3_20 hm.2.2.2.2.2.2.2.2.2.2.2.2.1.1 dX5_without_139 ?_
              refine lv_iconst (v := nI 1) hx hb dX5_without_142 (by decide) ?_
              refine g_lald hC hP hm.2.2.2.2.2.2.2.2.2.2.2.2.1.2 (vp_in_nI (by omega) (by decide)) dX5_without_143 ?_
              refine g_topl (y := J9 (h + 12) 1) rfl ?_
              refine lv_aload_n hx hb dX5_without_144 rfl (lv_at hl 0 rfl) ?_
              refine g_get hC hP hm.1 rfl inX5 14 (by decide) q3_20 hm.2.2.2.2.2.2.2.2.2.2.2.2.1.1 dX5_without_145 ?_
              refine lv_iconst (v := nI 3) hx hb dX5_without_148 (by decide) ?_
              refine g_lald hC hP hm.2.2.2.2.2.2.2.2.2.2.2.2.1.2 (vp_in_nI (by omega) (by decide)) dX5_without_149 ?_
              refine g_topl (y := J9 (h + 12) 3) rfl ?_
              refine lv_lmul hx hb dX5_without_150 ?_
              refine lv_lsub hx hb dX5_without_151 ?_
              refine g_retcl hC hS ?_ dX5_without_152
              refine ⟨congrArg (fun x => some (Value.long x)) (show _ = detS (gapM (gsP0 st) u t) col (popc u - 1) from by rw [← hkk, show kk = 3 from by omega]; exact wo_3 (X := J9 (h + 12)) (fun r p hr hp => by rw [h1, gu_eq]; exact h2 r p (by omega) (by omega))), X, by rw [← h1]; exact hP⟩
          · have c110 := (nI_eq (by omega) (by omega)).mp c110
            refine lv_aload_n hx hb dX5_without_113 rfl (lv_at hl 0 rfl) ?_
            refine g_get hC hP hm.1 rfl inX5 14 (by decide) q3_20 hm.2.2.2.2.2.2.2.2.2.2.2.2.1.1 dX5_without_114 ?_
            refine lv_iconst (v := nI 0) hx hb dX5_without_117 (by decide) ?_
            refine g_lald hC hP hm.2.2.2.2.2.2.2.2.2.2.2.2.1.2 (vp_in_nI (by omega) (by decide)) dX5_without_118 ?_
            refine g_topl (y := J9 (h + 12) 0) rfl ?_
            refine g_retcl hC hS ?_ dX5_without_119
            refine ⟨congrArg (fun x => some (Value.long x)) (show _ = detS (gapM (gsP0 st) u t) col (popc u - 1) from by rw [← hkk, show kk = 2 from by omega]; exact wo_2 (X := J9 (h + 12)) (fun r p hr hp => by rw [h1, gu_eq]; exact h2 r p (by omega) (by omega))), X, by rw [← h1]; exact hP⟩
        · have c103 := (nI_eq (by omega) (by omega)).mp c103
          refine lv_lconst (v := 1) hx hb dX5_without_106 (by decide) ?_
          refine g_retcl hC hS ?_ dX5_without_107
          refine ⟨congrArg (fun x => some (Value.long x)) (show _ = detS (gapM (gsP0 st) u t) col (popc u - 1) from by show (1 : Int64) = detS (gapM (gsP0 st) u t) col (popc u - 1); rw [← hkk, c103]; rfl), X, by rw [← h1]; exact hP⟩
      · have c8 := mt (nI_leI (by omega) (by omega)).mpr c8
        refine lv_iconst (v := nI 0) hx hb dX5_without_11 (by decide) ?_
        refine lv_istore (lv' := [(5, .int (nI 0)), (0, .ref h), (1, .int (nI 1)), (2, .int (nI col)), (3, .int (nI kk)), (4, .int (nI z))]) hx hb dX5_without_12 hl (by decide) rfl (fun ls hl => ?_)
        refine lv_iconst (v := nI 0) hx hb dX5_without_14 (by decide) ?_
        refine lv_istore (lv' := [(6, .int (nI 0)), (5, .int (nI 0)), (0, .ref h), (1, .int (nI 1)), (2, .int (nI col)), (3, .int (nI kk)), (4, .int (nI z))]) hx hb dX5_without_15 hl (by decide) rfl (fun ls hl => ?_)
        have L17 : ∀ (n17 : Nat) (q : Nat) (y : Nat) (X2 : Nat → Int64) (J10 : gJ), 5 ≤ n17 + y → (y ≤ kk) → (y ≤ col → q = y) → (col < y → q = y - 1) → (J10 = gu J (h + 12) X2) → (∀ r p, r < z → p < kk - 1 → X2 (3 * r + p) = gapM (gsP0 st) u t r (skp col p)) → (∀ p, p < q → X2 (3 * z + p) = gapM (gsP0 st) u t z (skp col p)) → ∀ (Hl : Heap) (lcl : List Loc), gP G T I J10 Q O Hl → va_S A s.heap Hl lcl → ∀ ls : Array Slot, lv_has ls 7 [(0, .ref h), (1, .int (nI 1)), (2, .int (nI col)), (3, .int (nI kk)), (4, .int (nI z)), (5, .int (nI q)), (6, .int (nI y))] → W p l e ({ frames := 1, cells := 0, slots := 0, locals := 23 } : Room) s m [.ref h, .int (nI 1), .int (nI col), .int (nI kk)].toArray below meth c Hl lcl 0 0 (MQ below (gQc A (fun r H1 => r = some (.long (detS (gapM (gsP0 st) u t) col (popc u - 1))) ∧ ∃ X : Nat → Int64, gP G T I (gu J (h + 12) X) Q O H1)) [.ref h, .int (nI 1), .int (nI col), .int (nI kk)].toArray s 0 0 A) (F0 m 17 ls []) := by
          intro n17
          induction n17 with
          | zero => intro q y X2 J10 hn17 hy hq1 hq2 g1 g2 g3; exact absurd hn17 (by omega)
          | succ n17 ih17 =>
            intro q y X2 J10 hn17 hy hq1 hq2 g1 g2 g3 Hl lcl hP hS ls hl
            refine lv_iload hx hb dX5_without_17 (lv_at hl 6 rfl) ?_
            refine lv_iload_n hx hb dX5_without_19 rfl (lv_at hl 3 rfl) ?_
            refine lv_icmp_ge (tgt := 95) hx hb dX5_without_20 (by decide) (fun c20 => ?_) (fun c20 => ?_)
            · have c20 := (nI_leI (by omega) (by omega)).mp c20
              refine lv_iinc (v := nI (z + 1)) (lv' := [(4, .int (nI (z + 1))), (0, .ref h), (1, .int (nI 1)), (2, .int (nI col)), (3, .int (nI kk)), (5, .int (nI q)), (6, .int (nI y))]) hx hb dX5_without_95 hl (k := 4) rfl (nI_inc _) (by decide) rfl (fun ls hl => ?_)
              refine lv_goto (tgt := 3) hx hb dX5_without_98 (by decide) ?_
              exact ih3 (z + 1) X2 J10 (by omega) (by omega) g1 (fun r p hr hp => by rcases Nat.lt_succ_iff_lt_or_eq.mp hr with hh | rfl; (exact g2 r p hh hp); (exact g3 p (by omega))) _ _ hP hS ls (lv_sub hl [1, 2, 3, 4, 0] rfl)
            · have c20 := mt (nI_leI (by omega) (by omega)).mpr c20
              refine lv_iload hx hb dX5_without_23 (lv_at hl 6 rfl) ?_
              refine lv_iload_n hx hb dX5_without_25 rfl (lv_at hl 2 rfl) ?_
              refine lv_icmp_eq (tgt := 89) hx hb dX5_without_26 (by decide) (fun c26 => ?_) (fun c26 => ?_)
              · have c26 := (nI_eq (by omega) (by omega)).mp c26
                refine lv_iinc (v := nI (y + 1)) (lv' := [(6, .int (nI (y + 1))), (0, .ref h), (1, .int (nI 1)), (2, .int (nI col)), (3, .int (nI kk)), (4, .int (nI z)), (5, .int (nI q))]) hx hb dX5_without_89 hl (k := 6) rfl (nI_inc _) (by decide) rfl (fun ls hl => ?_)
                refine lv_goto (tgt := 17) hx hb dX5_without_92 (by decide) ?_
                exact ih17 q (y + 1) X2 J10 (by omega) (by omega) (by omega) (by omega) (by first | exact g1 | (rw [hJ10, g1, au_gu]; rfl)) (by first | exact g2 | exact (fun r p hr hp => by rw [gu_ne _ _ (by omega)]; exact g2 r p hr hp)) (by first | exact g3 | exact (fun p hp => by by_cases e : p = q; (subst e; rw [gu_eq]; unfold skp; by_cases e2 : p < col; (rw [if_pos e2, show y = p from by omega]); (rw [if_neg e2, show y = p + 1 from by omega])); (rw [gu_ne _ _ (by omega)]; exact g3 p (by omega)))) _ _ hP hS ls (lv_sub hl [1, 2, 3, 4, 5, 6, 0] rfl)
              · have c26 := mt (nI_eq (by omega) (by omega)).mpr c26
                refine lv_aload_n hx hb dX5_without_29 rfl (lv_at hl 0 rfl) ?_
                refine g_get hC hP hm.1 rfl inX5 14 (by decide) q3_20 hm.2.2.2.2.2.2.2.2.2.2.2.2.1.1 dX5_without_30 ?_
                refine lv_iconst (v := nI 3) hx hb dX5_without_33 (by decide) ?_
                refine lv_iload hx hb dX5_without_34 (lv_at hl 4 rfl) ?_
                refine lv_imul hx hb dX5_without_36 ?_
                refine g_topi (y := nI (3 * z)) (nI_mul _ _) ?_
                refine lv_iload hx hb dX5_without_37 (lv_at hl 5 rfl) ?_
                refine lv_iadd hx hb dX5_without_39 ?_
                refine g_topi (y := nI (3 * z + q)) (nI_add _ _) ?_
                refine lv_aload_n hx hb dX5_without_40 rfl (lv_at hl 0 rfl) ?_
                refine lv_iconst (v := nI 1) hx hb dX5_without_41 (by decide) ?_
                refine lv_iload_n hx hb dX5_without_42 rfl (lv_at hl 1 rfl) ?_
                refine lv_isub hx hb dX5_without_43 ?_
                refine g_topi (y := nI 0) (by decide) ?_
                refine lv_aload_n hx hb dX5_without_44 rfl (lv_at hl 0 rfl) ?_
                refine g_get hC hP hm.1 rfl inX5 16 (by decide) q3_22 hm.2.2.2.2.2.2.2.2.2.2.2.2.2.2.1.1 dX5_without_45 ?_
                refine lv_iload hx hb dX5_without_48 (lv_at hl 4 rfl) ?_
                refine lv_iconst (v := nI 1) hx hb dX5_without_50 (by decide) ?_
                refine lv_iadd hx hb dX5_without_51 ?_
                refine g_topi (y := nI (z + 1)) (nI_add _ _) ?_
                refine g_iald hC hP hm.2.2.2.2.2.2.2.2.2.2.2.2.2.2.1.2 (vp_in_nI (by omega) (by decide)) dX5_without_52 ?_
                refine g_topi (y := nI (nth t (z + 1))) ((congrArg (I (h + 14)) (nI_clamp (by omega))).trans (han (z + 1) (by omega))) ?_
                refine lv_aload_n hx hb dX5_without_53 rfl (lv_at hl 0 rfl) ?_
                refine g_get hC hP hm.1 rfl inX5 15 (by decide) q3_21 hm.2.2.2.2.2.2.2.2.2.2.2.2.2.1.1 dX5_without_54 ?_
                refine lv_iload hx hb dX5_without_57 (lv_at hl 6 rfl) ?_
                refine g_iald hC hP hm.2.2.2.2.2.2.2.2.2.2.2.2.2.1.2 (vp_in_nI (by omega) (by decide)) dX5_without_59 ?_
                refine g_topi (y := nI (nth u y)) ((congrArg (I (h + 13)) (nI_clamp (by omega))).trans (hch y (by omega))) ?_
                refine g_cp (g_rV (As := [.int (nI 0), .int (nI (nth t (z + 1))), .int (nI (nth u y))]) hC hP (c_X5_get l hP (h := h) (w := 0) (i := nth t (z + 1)) (k := nth u y) (by first | assumption | omega) (by first | assumption | omega) (by first | assumption | omega) (nth_lt _ _) (nth_lt _ _)) hm.1 rfl ⟨q3_139, q3_136, q3_138, qs_34, q1_6⟩ dd_X5_get ⟨Nat.le_of_ble_eq_true rfl, Nat.le_of_ble_eq_true rfl, rfl, rfl⟩ hl.1 rfl (Nat.le_of_ble_eq_true rfl) dX5_without_60 ⟨Nat.le_of_ble_eq_true rfl, Nat.le_of_ble_eq_true rfl⟩) ?_
                refine W.eq (g2 := F0 m 63 ls [.int (gsP0 st ((nth t (z + 1)) * 4 + (nth u y))), .int (nI (3 * z + q)), .ref (h + 12)]) rfl ?_
                refine lv_aload_n hx hb dX5_without_63 rfl (lv_at hl 0 rfl) ?_
                refine lv_iconst (v := nI 1) hx hb dX5_without_64 (by decide) ?_
                refine lv_iload_n hx hb dX5_without_65 rfl (lv_at hl 1 rfl) ?_
                refine lv_isub hx hb dX5_without_66 ?_
                refine g_topi (y := nI 0) (by decide) ?_
                refine lv_aload_n hx hb dX5_without_67 rfl (lv_at hl 0 rfl) ?_
                refine g_get hC hP hm.1 rfl inX5 16 (by decide) q3_22 hm.2.2.2.2.2.2.2.2.2.2.2.2.2.2.1.1 dX5_without_68 ?_
                refine lv_iconst (v := nI 0) hx hb dX5_without_71 (by decide) ?_
                refine g_iald hC hP hm.2.2.2.2.2.2.2.2.2.2.2.2.2.2.1.2 (vp_in_nI (by omega) (by decide)) dX5_without_72 ?_
                refine g_topi (y := nI (nth t 0)) (han 0 (by omega)) ?_
                refine lv_aload_n hx hb dX5_without_73 rfl (lv_at hl 0 rfl) ?_
                refine g_get hC hP hm.1 rfl inX5 15 (by decide) q3_21 hm.2.2.2.2.2.2.2.2.2.2.2.2.2.1.1 dX5_without_74 ?_
                refine lv_iload hx hb dX5_without_77 (lv_at hl 6 rfl) ?_
                refine g_iald hC hP hm.2.2.2.2.2.2.2.2.2.2.2.2.2.1.2 (vp_in_nI (by omega) (by decide)) dX5_without_79 ?_
                refine g_topi (y := nI (nth u y)) ((congrArg (I (h + 13)) (nI_clamp (by omega))).trans (hch y (by omega))) ?_
                refine g_cp (g_rV (As := [.int (nI 0), .int (nI (nth t 0)), .int (nI (nth u y))]) hC hP (c_X5_get l hP (h := h) (w := 0) (i := nth t 0) (k := nth u y) (by first | assumption | omega) (by first | assumption | omega) (by first | assumption | omega) (nth_lt _ _) (nth_lt _ _)) hm.1 rfl ⟨q3_139, q3_136, q3_138, qs_34, q1_6⟩ dd_X5_get ⟨Nat.le_of_ble_eq_true rfl, Nat.le_of_ble_eq_true rfl, rfl, rfl⟩ hl.1 rfl (Nat.le_of_ble_eq_true rfl) dX5_without_80 ⟨Nat.le_of_ble_eq_true rfl, Nat.le_of_ble_eq_true rfl⟩) ?_
                refine W.eq (g2 := F0 m 83 ls [.int (gsP0 st ((nth t 0) * 4 + (nth u y))), .int (gsP0 st ((nth t (z + 1)) * 4 + (nth u y))), .int (nI (3 * z + q)), .ref (h + 12)]) rfl ?_
                refine lv_isub hx hb dX5_without_83 ?_
                refine lv_i2l hx hb dX5_without_84 rfl ?_
                refine g_last hC hP hS hTA hm.2.2.2.2.2.2.2.2.2.2.2.2.1.2 (vp_in_nI (by omega) (by decide)) dX5_without_85 (fun H1 locs2 hP hS hz4 => ?_)
                rw [show (nI (3 * z + q)).toNatClampNeg = 3 * z + q from nI_clamp (by omega)] at hP
                obtain ⟨J3, hJ3, hP⟩ : ∃ X : gJ, X = au J10 (h + 12) (3 * z + q) (((gsP0 st ((nth t (z + 1)) * 4 + (nth u y))) - (gsP0 st ((nth t 0) * 4 + (nth u y)))).toInt64) ∧ gP G T I X Q O H1 := ⟨_, rfl, hP⟩
                refine lv_iinc (v := nI (q + 1)) (lv' := [(5, .int (nI (q + 1))), (0, .ref h), (1, .int (nI 1)), (2, .int (nI col)), (3, .int (nI kk)), (4, .int (nI z)), (6, .int (nI y))]) hx hb dX5_without_86 hl (k := 5) rfl (nI_inc _) (by decide) rfl (fun ls hl => ?_)
                refine lv_iinc (v := nI (y + 1)) (lv' := [(6, .int (nI (y + 1))), (5, .int (nI (q + 1))), (0, .ref h), (1, .int (nI 1)), (2, .int (nI col)), (3, .int (nI kk)), (4, .int (nI z))]) hx hb dX5_without_89 hl (k := 6) rfl (nI_inc _) (by decide) rfl (fun ls hl => ?_)
                refine lv_goto (tgt := 17) hx hb dX5_without_92 (by decide) ?_
                exact ih17 (q + 1) (y + 1) (gu X2 (3 * z + q) ((gapM (gsP0 st) u t) z y)) J3 (by omega) (by omega) (by omega) (by omega) (by first | exact g1 | (rw [hJ3, g1, au_gu]; rfl)) (by first | exact g2 | exact (fun r p hr hp => by rw [gu_ne _ _ (by omega)]; exact g2 r p hr hp)) (by first | exact g3 | exact (fun p hp => by by_cases e : p = q; (subst e; rw [gu_eq]; unfold skp; by_cases e2 : p < col; (rw [if_pos e2, show y = p from by omega]); (rw [if_neg e2, show y = p + 1 from by omega])); (rw [gu_ne _ _ (by omega)]; exact g3 p (by omega)))) _ _ hP hS ls (lv_sub hl [2, 3, 4, 5, 6, 1, 0] rfl)
        exact L17 5 0 0 X J9 (by omega) (by omega) (by omega) (by omega) h1 h2 (fun p hp => absurd hp (Nat.not_lt_zero p)) _ _ hP hS ls (lv_sub hl [2, 3, 4, 5, 6, 1, 0] rfl)
  exact L3 5 0 (J (h + 12)) J (by omega) (by omega) (gu_self _ _).symm (fun r p hr => absurd hr (Nat.not_lt_zero r)) _ _ hP hS ls (lv_sub hl [1, 2, 3, 4, 0] rfl)
