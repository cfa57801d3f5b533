/-! ===== the law: its start ===== -/
set_option maxHeartbeats 4000000 in
set_option maxRecDepth 100000 in
theorem whole_start {p : Program} {e : Env} {s : State} {m : MethodId} {below : List Frame} {meth : Method} {c : Code} (l : Launch) (hflags : l.flags = flags0) {b L : Nat} {xs : Nat → Int32} (hL : L ≤ 2560) (C0 : lw_At p s m meth c b L xs) : W p l e room_1 s m #[Value.ref b] below meth c s.heap [] 0 0 (lw_Z below #[Value.ref b] s) (entryFrame m ([Value.ref b] : List Value).toArray 4) := by
  obtain ⟨hx, hb, hr, hml, hown, hts, hX, hbl, hlocks, hgv⟩ := C0
  obtain ⟨G, hK⟩ := gK_ex hts
  have hC : gC G p m c cL_law 4 s #[Value.ref b] RL meth ret meth.name := ⟨⟨hx, hb, hml, hown, fun w hw => hts w (List.mem_filter.mp hw).1⟩, hK, hr, hlocks, rfl⟩
  have hS : va_S (fun q : Nat => s.heap.size ≤ q) s.heap s.heap [] := va_S.rf
  have hP0 : gP G (fun _ => (0, 0)) (fun _ _ => 0) (fun _ _ => 0) (fun _ _ => none) (fun _ _ => .null) s.heap := fun a => gAt.none rfl
  have hl := lv_entry ([.ref b]) (n := 4) (Nat.le_of_ble_eq_true rfl)
  rw [lg_entry_eq]
  generalize (lg_sl ([.ref b]) ++ List.replicate (4 - (lg_sl ([.ref b])).length) Slot.unset).toArray = ls at hl ⊢
  have hl : lv_has ls 4 [(0, .ref b)] := hl
  refine g_new hC hP0 hS (ci := 4) rfl inX4 tyX4 tyX4_ok ⟨q1_9, q1_10, q1_1⟩ (fun k => match k with | 0 => .null | 1 => .null | 2 => .null | 3 => .null | 4 => .int 0 | _ => .null) (fun j hj => by rcases (show j = 0 ∨ j = 1 ∨ j = 2 ∨ j = 3 ∨ j = 4 by omega) with rfl | rfl | rfl | rfl | rfl <;> rfl) (Nat.le_of_ble_eq_true rfl) (Nat.le_of_ble_eq_true rfl) dL_law_0 (fun H1 hP1 hS1 hz1 => ?_)
  refine lv_dup hx hb dL_law_3 rfl ?_
  refine g_cc (g_rI (As := []) hC (c_X4_init l hP1 (g := s.heap.size) (gu_eq _ _ _) hz1) ⟨q1_13, q1_11, q1_12, q1_1⟩ rfl dd_X4_init ⟨Nat.le_of_ble_eq_true rfl, Nat.le_of_ble_eq_true rfl, rfl, rfl⟩ hl.1 rfl (Nat.le_of_ble_eq_true rfl) dL_law_4 ⟨Nat.le_of_ble_eq_true rfl, Nat.le_of_ble_eq_true rfl⟩) hS1 (fun q z => z.elim (fun z => ?_) (fun z => Nat.le_trans hS1.1 z)) (fun r2 H2 locs2 hq2 hS2 hz2 hfr2 => ?_)
  · by_cases e9 : q = s.heap.size
    · exact Nat.le_of_eq e9.symm
    · rw [gu_ne _ _ e9] at z
      exact absurd rfl z
  obtain ⟨rfl, hz2b, hgt⟩ := hq2
  refine W.eq (g2 := F0 m 7 ls [.ref s.heap.size]) rfl ?_
  refine lv_astore_n (lv' := [(1, .ref s.heap.size), (0, .ref b)]) hx hb dL_law_7 rfl hl (by decide) rfl (fun ls hl => ?_)
  obtain ⟨T2, I2, J2, Q2, O2, r, d, ck, cr, cd, Sr, Sd, hP2, hE, hg, hck, e1, e2, e3, e4, e5⟩ := hgt
  have hT2 : ∀ q, (T2 q).1 ≠ 0 → s.heap.size ≤ q ∧ q < H2.size := fun q hq => by
    refine ⟨?_, hP2.lt hq⟩
    rcases hE q hq with z | z
    · by_cases e9 : q = s.heap.size
      · exact Nat.le_of_eq e9.symm
      · rw [gu_ne _ _ e9] at z
        exact absurd rfl z
    · omega
  have hS := hS2
  refine g_new hC hP2 hS (ci := 5) rfl inX5 tyX5 tyX5_ok ⟨q3_0, q3_1, q1_6⟩ (fun k => match k with | 0 => .null | 1 => .null | 2 => .null | 3 => .null | 4 => .null | 5 => .null | 6 => .int 0 | 7 => .int 0 | 8 => .int 0 | 9 => .null | 10 => .null | 11 => .null | 12 => .null | 13 => .null | 14 => .null | 15 => .null | 16 => .null | 17 => .null | 18 => .null | _ => .null) (fun j hj => by rcases (show j = 0 ∨ j = 1 ∨ j = 2 ∨ j = 3 ∨ j = 4 ∨ j = 5 ∨ j = 6 ∨ j = 7 ∨ j = 8 ∨ j = 9 ∨ j = 10 ∨ j = 11 ∨ j = 12 ∨ j = 13 ∨ j = 14 ∨ j = 15 ∨ j = 16 ∨ j = 17 ∨ j = 18 by omega) with rfl | rfl | rfl | rfl | rfl | rfl | rfl | rfl | rfl | rfl | rfl | rfl | rfl | rfl | rfl | rfl | rfl | rfl | rfl <;> rfl) (Nat.le_of_ble_eq_true rfl) (Nat.le_of_ble_eq_true rfl) dL_law_8 (fun H3 hP3 hS3 hz3 => ?_)
  have hPc : gP G T2 I2 J2 Q2 (gu O2 H2.size (fun k => match k with | 0 => .null | 1 => .null | 2 => .null | 3 => .null | 4 => .null | 5 => .null | 6 => .int 0 | 7 => .int 0 | 8 => .int 0 | 9 => .null | 10 => .null | 11 => .null | 12 => .null | 13 => .null | 14 => .null | 15 => .null | 16 => .null | 17 => .null | 18 => .null | _ => .null)) H3 := gP_sub hP3 (fun q => by
    by_cases e9 : q = H2.size
    · right
      rw [e9]
      exact hP2.new
    · left
      exact (gu_ne _ _ e9).symm)
  have hPm : gP G (gu (fun _ => (0, 0)) H2.size (1, 5)) I2 J2 Q2 (gu O2 H2.size (fun k => match k with | 0 => .null | 1 => .null | 2 => .null | 3 => .null | 4 => .null | 5 => .null | 6 => .int 0 | 7 => .int 0 | 8 => .int 0 | 9 => .null | 10 => .null | 11 => .null | 12 => .null | 13 => .null | 14 => .null | 15 => .null | 16 => .null | 17 => .null | 18 => .null | _ => .null)) H3 := gP_sub hP3 (fun q => by
    by_cases e9 : q = H2.size
    · left
      rw [e9, gu_eq, gu_eq]
    · right
      rw [gu_ne _ _ e9])
  refine lv_dup hx hb dL_law_11 rfl ?_
  refine g_cc (g_rI (As := []) hC (c_X5_init l hPm (h := H2.size) (gu_eq _ _ _) hz3) ⟨q3_4, q3_2, q3_3, q1_6⟩ rfl dd_X5_init ⟨Nat.le_of_ble_eq_true rfl, Nat.le_of_ble_eq_true rfl, rfl, rfl⟩ hl.1 rfl (Nat.le_of_ble_eq_true rfl) dL_law_12 ⟨Nat.le_of_ble_eq_true rfl, Nat.le_of_ble_eq_true rfl⟩) hS3 (fun q z => z.elim (fun z => ?_) (fun z => Nat.le_trans hS3.1 z)) (fun r4 H4 locs4 hq4 hS4 hz4 hfr4 => ?_)
  · by_cases e9 : q = H2.size
    · rw [e9]; exact hS.1
    · rw [gu_ne _ _ e9] at z
      exact absurd rfl z
  obtain ⟨rfl, hz4b, T4, hT4, hmo⟩ := hq4
  refine W.eq (g2 := F0 m 15 ls [.ref H2.size]) rfl ?_
  refine lv_astore_n (lv' := [(2, .ref H2.size), (1, .ref s.heap.size), (0, .ref b)]) hx hb dL_law_15 rfl hl (by decide) rfl (fun ls hl => ?_)
  refine lv_iconst (v := nI 0) hx hb dL_law_16 (by decide) ?_
  refine lv_istore_n (lv' := [(3, .int (nI 0)), (2, .ref H2.size), (1, .ref s.heap.size), (0, .ref b)]) hx hb dL_law_17 rfl hl (by decide) rfl (fun ls hl => ?_)
  have hd4 : ∀ q, (T4 q).1 ≠ 0 → H2.size ≤ q := fun q hq => by
    rcases Nat.lt_or_ge q H2.size with z | z
    · rw [hT4 q (Or.inl (by omega)), gu_ne _ _ (by omega)] at hq
      exact absurd rfl hq
    · exact z
  obtain ⟨I5, J5, Q5, O5, hP5, hm5, hs5⟩ := hmo
  have hO : ∀ q, (T2 q).1 ≠ 0 → gu O2 H2.size (fun k => match k with | 0 => .null | 1 => .null | 2 => .null | 3 => .null | 4 => .null | 5 => .null | 6 => .int 0 | 7 => .int 0 | 8 => .int 0 | 9 => .null | 10 => .null | 11 => .null | 12 => .null | 13 => .null | 14 => .null | 15 => .null | 16 => .null | 17 => .null | 18 => .null | _ => .null) q = O2 q := fun q hq => gu_ne _ _ (by have := (hT2 q hq).2; omega)
  have hPc2 : gP G T2 I2 J2 Q2 O2 H4 := fun a => by
    by_cases z : (T2 a).1 = 0
    · exact gAt.none z
    · have q := gP_frame hPc hz4 hfr4 (fun q hq => by rw [gu_ne _ _ (by have := (hT2 q hq).2; omega)]) a
      rw [hO a z] at q
      exact q
  have hWD : WD G s.heap.size s.heap.size H2.size gs0 H4 := by
    refine ⟨T2, I2, J2, Q2, O2, r, d, ck, cr, cd, Sr, Sd, T4, I5, J5, Q5, O5, hPc2, hg, by rw [e1, e2]; exact hck, ?_, hP5, hm5, hs5, fun q hq => Classical.byContradiction (fun z => ?_), fun q hq => (hT2 q hq).1, fun q hq => Nat.le_trans hS.1 (hd4 q hq), gInv_0⟩
    · unfold gsI
      rw [e1, e2, e3, e4, e5]
    · have a1 := hd4 q z
      have a2 := (hT2 q hq).2
      omega
  exact law_loop hC hX hbl hL (L + 1) 0 gs0 H4 locs4 ls (by omega) (by omega) hS4 hWD (lv_sub hl [3, 2, 1, 0] rfl)
