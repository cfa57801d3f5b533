/-! ===== the reference: solve ===== -/
/-- the scratch square and the shares -/
def shG (J : gJ) (h : Nat) (X S : Nat → Int64) : gJ := gu (gu J (h + 12) X) (h + 15) S
theorem shG_self (J : gJ) (h : Nat) : J = shG J h (J (h + 12)) (J (h + 15)) := by
  unfold shG
  rw [gu_self, gu_self]
theorem shG_15 (J : gJ) (h : Nat) (X S : Nat → Int64) : shG J h X S (h + 15) = S := gu_eq _ _ _
theorem shG_ne (J : gJ) {h q : Nat} (X S : Nat → Int64) (h1 : q ≠ h + 12) (h2 : q ≠ h + 15) : shG J h X S q = J q := by
  unfold shG
  rw [gu_ne _ _ h2, gu_ne _ _ h1]
theorem shG_12 (J : gJ) (h : Nat) (X X' S : Nat → Int64) : gu (shG J h X S) (h + 12) X' = shG J h X' S := by
  unfold shG
  funext q
  unfold gu
  by_cases e1 : q = h + 12
  · subst e1; simp
  · by_cases e2 : q = h + 15 <;> simp [e1]
theorem shG_set (J : gJ) (h : Nat) (X S : Nat → Int64) (j : Nat) (v : Int64) : au (shG J h X S) (h + 15) j v = shG J h X (gu S j v) := by
  unfold shG
  rw [au_gu]
def shF (X : Nat → Int64) (u z j : Nat) : Int64 := if u.testBit j = true ∧ rnk u j < z then X j else 0
theorem shF_0 (X : Nat → Int64) (u j : Nat) : shF X u 0 j = 0 := if_neg (by omega)
theorem shF_s {X S : Nat → Int64} {u z : Nat} (hu : u < 16) (hz : z < popc u) (h : ∀ j, j < 4 → S j = shF X u z j) : ∀ j, j < 4 → gu S (nth u z) (X (nth u z)) j = shF X u (z + 1) j := fun j hj => by
  obtain ⟨n1, n2⟩ := nth_ok hu hz
  unfold gu
  by_cases e : j = nth u z
  · subst e
    rw [if_pos rfl]
    unfold shF
    rw [if_pos ⟨n1, by omega⟩]
  · rw [if_neg e, h j hj]
    unfold shF
    by_cases c : u.testBit j = true ∧ rnk u j < z
    · rw [if_pos c, if_pos ⟨c.1, by omega⟩]
    · rw [if_neg c, if_neg]
      rintro ⟨c1, c2⟩
      by_cases d : rnk u j < z
      · exact c ⟨c1, d⟩
      · have := nth_rnk hu hj c1
        rw [show rnk u j = z from by omega] at this
        exact e this.symm
theorem shF_at {X : Nat → Int64} {u p z : Nat} (hu : u < 16) (hp : p < popc u) (hz : z = popc u) : shF X u z (nth u p) = X (nth u p) := by
  obtain ⟨n1, n2⟩ := nth_ok hu hp
  exact if_pos ⟨n1, by omega⟩
theorem shF_all {P : Nat → Int32} {u t j z : Nat} (hu : u < 16) (hj : j < 4) (hz : z = popc u) : shF (candX P u t) u z j = candX P u t j := by
  unfold shF
  cases hb : u.testBit j
  · rw [if_neg (by simp), cX_0 hb]
  · rw [if_pos ⟨rfl, by rw [hz]; exact rnk_popc_lt hu hj hb⟩]
theorem gcdL_s {a b : Int64} {g : Nat} (ha : a.toInt = g) (hg : g ≤ 1536000) (hb : 0 ≤ b.toInt ∧ b.toInt ≤ 384000) : (gcdL a b).toInt = (Nat.gcd g b.toInt.natAbs : Nat) := by
  have c := gcd_sum g b.toInt.natAbs
  have e : gcdN a b = Nat.gcd g b.toInt.natAbs := by
    unfold gcdN
    rw [ha, Int.natAbs_natCast]
  unfold gcdL
  rw [e, Int64.toInt_ofInt]
  exact bm64 (by omega) (by omega)
set_option maxHeartbeats 4000000 in
set_option maxRecDepth 100000 in
theorem c_X5_solve_0 (l : Launch) {G : gG} {T : gTy} {I : gI} {J : gJ} {Q : gR} {O : gO} {H : Heap} (hP : gP G T I J Q O H) {h : Nat} {st : GS} {u t kk : Nat} (hm : isMo T O h) (hs0 : moS I h st) (hu : u < 16) (ht : t < 16) (hkk : kk = popc u) (hkt : kk = popc t) (hk1 : 1 ≤ kk ∧ kk ≤ 4) (hch : ∀ j, j < kk → I (h + 13) j = nI (nth u j)) (han : ∀ j, j < kk → I (h + 14) j = nI (nth t j)) (hu1 : 1 ≤ u) (hbp : bdP (gsP1 st)) : Met l yX5_solve (gw yX5_solve cX5_solve 9 (some (.boolean))) ({ frames := 2, cells := 0, slots := 0, locals := 49 } : Room) (gPc G H [.ref h, .int (nI 0), .int (nI kk)]) (gQc (gF T H) (fun r H1 => ∃ (X S : Nat → Int64), gP G T I (shG J h X S) Q O H1 ∧ ((posOK (candX (gsP1 st) u t) u = false ∧ r = some (.int (gb false))) ∨ (posOK (candX (gsP1 st) u t) u = true ∧ r = some (.int (gb true)) ∧ ∃ D : Int, 0 < D ∧ ∀ j, j < 4 → (candY (gsP1 st) u t j).toInt = D * (S j).toInt)))) 0 0 (gF T H) := by
  refine g_met [(0, .ref h), (1, .int (nI 0)), (2, .int (nI kk))] (by decide) rfl (by exact Nat.le_of_ble_eq_true rfl) ?_
  intro p e s m below meth c hC hs ls hl
  have hx := hC.1.1
  have hb := hC.1.2.1
  have hS : va_S (gF T H) s.heap H [] := hs ▸ va_S.rf
  have hTA : ∀ q, (T q).1 ≠ 0 → gF T H q := fun q h => Or.inl h
  have hA : ∀ q, s.heap.size ≤ q → gF T H q := fun q h => Or.inr (hs ▸ h)
  generalize hAe : gF T H = A at hS hTA hA ⊢
  have hms := hs0.1
  have hns := hs0.2.1
  refine lv_lconst (v := 0) hx hb dX5_solve_0 (by decide) ?_
  refine lv_lstore_n (lv' := [(3, .long (0 : Int64)), (0, .ref h), (1, .int (nI 0)), (2, .int (nI kk))]) hx hb dX5_solve_1 rfl hl (by decide) rfl (fun ls hl => ?_)
  refine lv_iconst (v := nI 0) hx hb dX5_solve_2 (by decide) ?_
  refine lv_istore (lv' := [(5, .int (nI 0)), (3, .long (0 : Int64)), (0, .ref h), (1, .int (nI 0)), (2, .int (nI kk))]) hx hb dX5_solve_3 hl (by decide) rfl (fun ls hl => ?_)
  have L5 : ∀ (n5 : Nat) (z : Nat) (S : Nat → Int64) (J9 : gJ), 5 ≤ n5 + z → (z ≤ 4) → (J9 = shG J h (J (h + 12)) S) → (∀ j, j < z → S j = 0) → ∀ (Hl : Heap) (lcl : List Loc), gP G T I J9 Q O Hl → va_S A s.heap Hl lcl → ∀ ls : Array Slot, lv_has ls 9 [(0, .ref h), (1, .int (nI 0)), (2, .int (nI kk)), (3, .long (0 : Int64)), (5, .int (nI z))] → W p l e ({ frames := 2, cells := 0, slots := 0, locals := 49 } : Room) s m [.ref h, .int (nI 0), .int (nI kk)].toArray below meth c Hl lcl 0 0 (MQ below (gQc A (fun r H1 => ∃ (X S : Nat → Int64), gP G T I (shG J h X S) Q O H1 ∧ ((posOK (candX (gsP1 st) u t) u = false ∧ r = some (.int (gb false))) ∨ (posOK (candX (gsP1 st) u t) u = true ∧ r = some (.int (gb true)) ∧ ∃ D : Int, 0 < D ∧ ∀ j, j < 4 → (candY (gsP1 st) u t j).toInt = D * (S j).toInt)))) [.ref h, .int (nI 0), .int (nI kk)].toArray s 0 0 A) (F0 m 5 ls []) := by
    intro n5
    induction n5 with
    | zero => intro z S J9 hn5 hz h1 h2; exact absurd hn5 (by omega)
    | succ n5 ih5 =>
      intro z S J9 hn5 hz h1 h2 Hl lcl hP hS ls hl
      refine lv_iload hx hb dX5_solve_5 (lv_at hl 4 rfl) ?_
      refine lv_iconst (v := nI 4) hx hb dX5_solve_7 (by decide) ?_
      refine lv_icmp_ge (tgt := 25) hx hb dX5_solve_8 (by decide) (fun c8 => ?_) (fun c8 => ?_)
      · have c8 := (nI_leI (by omega) (by omega)).mp c8
        refine lv_iconst (v := nI 0) hx hb dX5_solve_25 (by decide) ?_
        refine lv_istore (lv' := [(5, .int (nI 0)), (0, .ref h), (1, .int (nI 0)), (2, .int (nI kk)), (3, .long (0 : Int64))]) hx hb dX5_solve_26 hl (by decide) rfl (fun ls hl => ?_)
        have L28 : ∀ (n28 : Nat) (z2 : Nat) (al : Int64) (X : Nat → Int64) (S2 : Nat → Int64) (J10 : gJ), 5 ≤ n28 + z2 → (z2 ≤ kk) → (al = alF (candX (gsP1 st) u t) u z2) → (J10 = shG J h X S2) → (∀ j, j < 4 → S2 j = shF (candX (gsP1 st) u t) u z2 j) → ∀ (Hl : Heap) (lcl : List Loc), gP G T I J10 Q O Hl → va_S A s.heap Hl lcl → ∀ ls : Array Slot, lv_has ls 9 [(0, .ref h), (1, .int (nI 0)), (2, .int (nI kk)), (3, .long al), (5, .int (nI z2))] → W p l e ({ frames := 2, cells := 0, slots := 0, locals := 49 } : Room) s m [.ref h, .int (nI 0), .int (nI kk)].toArray below meth c Hl lcl 0 0 (MQ below (gQc A (fun r H1 => ∃ (X S : Nat → Int64), gP G T I (shG J h X S) Q O H1 ∧ ((posOK (candX (gsP1 st) u t) u = false ∧ r = some (.int (gb false))) ∨ (posOK (candX (gsP1 st) u t) u = true ∧ r = some (.int (gb true)) ∧ ∃ D : Int, 0 < D ∧ ∀ j, j < 4 → (candY (gsP1 st) u t j).toInt = D * (S j).toInt)))) [.ref h, .int (nI 0), .int (nI kk)].toArray s 0 0 A) (F0 m 28 ls []) := by
          intro n28
          induction n28 with
          | zero => intro z2 al X S2 J10 hn28 hz2 hal g1 g2; exact absurd hn28 (by omega)
          | succ n28 ih28 =>
            intro z2 al X S2 J10 hn28 hz2 hal g1 g2 Hl lcl hP hS ls hl
            refine lv_iload hx hb dX5_solve_28 (lv_at hl 4 rfl) ?_
            refine lv_iload_n hx hb dX5_solve_30 rfl (lv_at hl 2 rfl) ?_
            refine lv_icmp_ge (tgt := 92) hx hb dX5_solve_31 (by decide) (fun c31 => ?_) (fun c31 => ?_)
            · have c31 := (nI_leI (by omega) (by omega)).mp c31
              have ez : z2 = popc u := by omega
              rw [ez] at hal
              obtain ⟨cg1, cg2⟩ := cand_good (t := t) hu hu1 hbp
              rw [← hal] at cg1 cg2
              refine lv_lload_n hx hb dX5_solve_92 rfl (lv_at hl 3 rfl) ?_
              refine lv_lconst (v := 0) hx hb dX5_solve_93 (by decide) ?_
              refine W.lcmp hx hb dX5_solve_94 ?_
              refine lv_if_eq (tgt := 102) hx hb dX5_solve_95 (by decide) (fun c95 => ?_) (fun c95 => ?_)
              · have c95 := (lg_cmp_eq _ _).mp c95
                refine lv_iconst (v := nI 0) hx hb dX5_solve_102 (by decide) ?_
                refine lv_istore (lv' := [(5, .int (nI 0)), (0, .ref h), (1, .int (nI 0)), (2, .int (nI kk)), (3, .long al)]) hx hb dX5_solve_103 hl (by decide) rfl (fun ls hl => ?_)
                refine lv_iconst (v := nI 0) hx hb dX5_solve_105 (by decide) ?_
                refine lv_istore (lv' := [(6, .int (nI 0)), (5, .int (nI 0)), (0, .ref h), (1, .int (nI 0)), (2, .int (nI kk)), (3, .long al)]) hx hb dX5_solve_106 hl (by decide) rfl (fun ls hl => ?_)
                have L108 : ∀ (n108 : Nat) (z3 : Nat) (gd : Bool), 5 ≤ n108 + z3 → (z3 ≤ kk) → (gd = gdF (candX (gsP1 st) u t) u al z3) → ∀ (Hl : Heap) (lcl : List Loc), gP G T I J10 Q O Hl → va_S A s.heap Hl lcl → ∀ ls : Array Slot, lv_has ls 9 [(0, .ref h), (1, .int (nI 0)), (2, .int (nI kk)), (3, .long al), (5, .int (gb gd)), (6, .int (nI z3))] → W p l e ({ frames := 2, cells := 0, slots := 0, locals := 49 } : Room) s m [.ref h, .int (nI 0), .int (nI kk)].toArray below meth c Hl lcl 0 0 (MQ below (gQc A (fun r H1 => ∃ (X S : Nat → Int64), gP G T I (shG J h X S) Q O H1 ∧ ((posOK (candX (gsP1 st) u t) u = false ∧ r = some (.int (gb false))) ∨ (posOK (candX (gsP1 st) u t) u = true ∧ r = some (.int (gb true)) ∧ ∃ D : Int, 0 < D ∧ ∀ j, j < 4 → (candY (gsP1 st) u t j).toInt = D * (S j).toInt)))) [.ref h, .int (nI 0), .int (nI kk)].toArray s 0 0 A) (F0 m 108 ls []) := by
                  intro n108
                  induction n108 with
                  | zero => intro z3 gd hn108 hz3 k1; exact absurd hn108 (by omega)
                  | succ n108 ih108 =>
                    intro z3 gd hn108 hz3 k1 Hl lcl hP hS ls hl
                    refine lv_iload hx hb dX5_solve_108 (lv_at hl 5 rfl) ?_
                    refine lv_iload_n hx hb dX5_solve_110 rfl (lv_at hl 2 rfl) ?_
                    refine lv_icmp_ge (tgt := 179) hx hb dX5_solve_111 (by decide) (fun c111 => ?_) (fun c111 => ?_)
                    · have c111 := (nI_leI (by omega) (by omega)).mp c111
                      refine lv_iload hx hb dX5_solve_179 (lv_at hl 4 rfl) ?_
                      refine lv_if_ne (tgt := 186) hx hb dX5_solve_181 (by decide) (fun c181 => ?_) (fun c181 => ?_)
                      · have c181 := gb_t c181
                        have ez3 : z3 = popc u := by omega
                        have hpos : posOK (candX (gsP1 st) u t) u = true := by rw [← cg1, ← ez3, ← k1]; exact c181
                        obtain ⟨cy1, cy2, cy3, cy4, cy5⟩ := cg2 hpos
                        refine lv_lconst (v := 0) hx hb dX5_solve_186 (by decide) ?_
                        refine lv_lstore (lv' := [(6, .long (0 : Int64)), (0, .ref h), (1, .int (nI 0)), (2, .int (nI kk)), (3, .long al), (5, .int (gb gd))]) hx hb dX5_solve_187 hl (by decide) rfl (fun ls hl => ?_)
                        refine lv_iconst (v := nI 0) hx hb dX5_solve_189 (by decide) ?_
                        refine lv_istore (lv' := [(8, .int (nI 0)), (6, .long (0 : Int64)), (0, .ref h), (1, .int (nI 0)), (2, .int (nI kk)), (3, .long al), (5, .int (gb gd))]) hx hb dX5_solve_190 hl (by decide) rfl (fun ls hl => ?_)
                        have L192 : ∀ (n192 : Nat) (z4 : Nat) (bb : Int64) (S4 : Nat → Int64) (J11 : gJ), 5 ≤ n192 + z4 → (z4 ≤ 4) → (J11 = shG J h X S4) → (∀ j, j < 4 → S4 j = if j < z4 then candY (gsP1 st) u t j else candX (gsP1 st) u t j) → (bb.toInt = (gNF (candY (gsP1 st) u t) z4 : Nat)) → ∀ (Hl : Heap) (lcl : List Loc), gP G T I J11 Q O Hl → va_S A s.heap Hl lcl → ∀ ls : Array Slot, lv_has ls 9 [(0, .ref h), (3, .long al), (6, .long bb), (8, .int (nI z4))] → W p l e ({ frames := 2, cells := 0, slots := 0, locals := 49 } : Room) s m [.ref h, .int (nI 0), .int (nI kk)].toArray below meth c Hl lcl 0 0 (MQ below (gQc A (fun r H1 => ∃ (X S : Nat → Int64), gP G T I (shG J h X S) Q O H1 ∧ ((posOK (candX (gsP1 st) u t) u = false ∧ r = some (.int (gb false))) ∨ (posOK (candX (gsP1 st) u t) u = true ∧ r = some (.int (gb true)) ∧ ∃ D : Int, 0 < D ∧ ∀ j, j < 4 → (candY (gsP1 st) u t j).toInt = D * (S j).toInt)))) [.ref h, .int (nI 0), .int (nI kk)].toArray s 0 0 A) (F0 m 192 ls []) := by
                          intro n192
                          induction n192 with
                          | zero => intro z4 bb S4 J11 hn192 hz4 m1 m2 m3; exact absurd hn192 (by omega)
                          | succ n192 ih192 =>
                            intro z4 bb S4 J11 hn192 hz4 m1 m2 m3 Hl lcl hP hS ls hl
                            have gl := gN_le cy3 z4 hz4
                            refine lv_iload hx hb dX5_solve_192 (lv_at hl 3 rfl) ?_
                            refine lv_iconst (v := nI 4) hx hb dX5_solve_194 (by decide) ?_
                            refine lv_icmp_ge (tgt := 249) hx hb dX5_solve_195 (by decide) (fun c195 => ?_) (fun c195 => ?_)
                            · have c195 := (nI_leI (by omega) (by omega)).mp c195
                              have e4 : z4 = 4 := by omega
                              rw [e4] at m3
                              have gp : 0 < gNF (candY (gsP1 st) u t) 4 := gN_pos (nth_lt u 0) (cy4 _ (nth_lt u 0) (nth_ok hu (by omega)).1)
                              have bn : ¬ bb = 0 := fun e => by rw [e, i64_20.2.2] at m3; omega
                              refine lv_iconst (v := nI 0) hx hb dX5_solve_249 (by decide) ?_
                              refine lv_istore (lv' := [(8, .int (nI 0)), (0, .ref h), (3, .long al), (6, .long bb)]) hx hb dX5_solve_250 hl (by decide) rfl (fun ls hl => ?_)
                              have L252 : ∀ (n252 : Nat) (z5 : Nat) (S5 : Nat → Int64) (J12 : gJ), 5 ≤ n252 + z5 → (z5 ≤ 4) → (J12 = shG J h X S5) → (∀ j, j < 4 → S5 j = if j < z5 then candY (gsP1 st) u t j / bb else candY (gsP1 st) u t j) → ∀ (Hl : Heap) (lcl : List Loc), gP G T I J12 Q O Hl → va_S A s.heap Hl lcl → ∀ ls : Array Slot, lv_has ls 9 [(0, .ref h), (6, .long bb), (8, .int (nI z5))] → W p l e ({ frames := 2, cells := 0, slots := 0, locals := 49 } : Room) s m [.ref h, .int (nI 0), .int (nI kk)].toArray below meth c Hl lcl 0 0 (MQ below (gQc A (fun r H1 => ∃ (X S : Nat → Int64), gP G T I (shG J h X S) Q O H1 ∧ ((posOK (candX (gsP1 st) u t) u = false ∧ r = some (.int (gb false))) ∨ (posOK (candX (gsP1 st) u t) u = true ∧ r = some (.int (gb true)) ∧ ∃ D : Int, 0 < D ∧ ∀ j, j < 4 → (candY (gsP1 st) u t j).toInt = D * (S j).toInt)))) [.ref h, .int (nI 0), .int (nI kk)].toArray s 0 0 A) (F0 m 252 ls []) := by
                                intro n252
                                induction n252 with
                                | zero => intro z5 S5 J12 hn252 hz5 o1 o2; exact absurd hn252 (by omega)
                                | succ n252 ih252 =>
                                  intro z5 S5 J12 hn252 hz5 o1 o2 Hl lcl hP hS ls hl
                                  refine lv_iload hx hb dX5_solve_252 (lv_at hl 2 rfl) ?_
                                  refine lv_iconst (v := nI 4) hx hb dX5_solve_254 (by decide) ?_
                                  refine lv_icmp_ge (tgt := 276) hx hb dX5_solve_255 (by decide) (fun c255 => ?_) (fun c255 => ?_)
                                  · have c255 := (nI_leI (by omega) (by omega)).mp c255
                                    refine lv_iconst (v := nI 1) hx hb dX5_solve_276 (by decide) ?_
                                    refine g_retcz hC hS (b := true) (by decide) ?_ dX5_solve_277
                                    exact ⟨X, S5, by rw [← o1]; exact hP, Or.inr ⟨hpos, rfl, (gNF (candY (gsP1 st) u t) 4 : Nat), by omega, fun j hj => by rw [o2 j hj, if_pos (by omega)]; exact red_I (cy3 j hj).1 m3 gp (gN_dvd 4 j hj)⟩⟩
                                  · have c255 := mt (nI_leI (by omega) (by omega)).mpr c255
                                    refine lv_aload_n hx hb dX5_solve_258 rfl (lv_at hl 0 rfl) ?_
                                    refine g_get hC hP hm.1 rfl inX5 17 (by decide) q3_23 hm.2.2.2.2.2.2.2.2.2.2.2.2.2.2.2.1.1 dX5_solve_259 ?_
                                    refine lv_iload hx hb dX5_solve_262 (lv_at hl 2 rfl) ?_
                                    refine lv_dup2_11 hx hb dX5_solve_264 rfl rfl ?_
                                    refine g_lald hC hP hm.2.2.2.2.2.2.2.2.2.2.2.2.2.2.2.1.2 (vp_in_nI (by omega) (by decide)) dX5_solve_265 ?_
                                    refine g_topl (y := candY (gsP1 st) u t z5) ((congrArg (J12 (h + 15)) (nI_clamp (by omega))).trans (by rw [o1, shG_15, o2 z5 (by omega), if_neg (by omega)])) ?_
                                    refine lv_lload hx hb dX5_solve_266 (lv_at hl 1 rfl) ?_
                                    refine lv_ldiv hx hb dX5_solve_268 bn ?_
                                    refine g_last hC hP hS hTA hm.2.2.2.2.2.2.2.2.2.2.2.2.2.2.2.1.2 (vp_in_nI (by omega) (by decide)) dX5_solve_269 (fun H1 locs2 hP hS hz4 => ?_)
                                    rw [show (nI z5).toNatClampNeg = z5 from nI_clamp (by omega)] at hP
                                    obtain ⟨J3, hJ3, hP⟩ : ∃ X : gJ, X = au J12 (h + 15) z5 ((candY (gsP1 st) u t z5) / bb) ∧ gP G T I X Q O H1 := ⟨_, rfl, hP⟩
                                    refine lv_iinc (v := nI (z5 + 1)) (lv' := [(8, .int (nI (z5 + 1))), (0, .ref h), (6, .long bb)]) hx hb dX5_solve_270 hl (k := 2) rfl (nI_inc _) (by decide) rfl (fun ls hl => ?_)
                                    refine lv_goto (tgt := 252) hx hb dX5_solve_273 (by decide) ?_
                                    exact ih252 (z5 + 1) (gu S5 z5 (candY (gsP1 st) u t z5 / bb)) J3 (by omega) (by omega) (by rw [hJ3, o1, shG_set]) (fun j hj => by by_cases e : j = z5; (subst e; rw [gu_eq, if_pos (by omega)]); (rw [gu_ne _ _ e, o2 j hj]; by_cases e2 : j < z5; (rw [if_pos e2, if_pos (by omega)]); (rw [if_neg e2, if_neg (by omega)]))) _ _ hP hS ls (lv_sub hl [1, 2, 0] rfl)
                              exact L252 5 0 S4 J11 (by omega) (by omega) m1 (fun j hj => by rw [if_neg (Nat.not_lt_zero j), m2 j hj, if_pos (by omega)]) _ _ hP hS ls (lv_sub hl [1, 3, 0] rfl)
                            · have c195 := mt (nI_leI (by omega) (by omega)).mpr c195
                              refine lv_aload_n hx hb dX5_solve_198 rfl (lv_at hl 0 rfl) ?_
                              refine g_get hC hP hm.1 rfl inX5 17 (by decide) q3_23 hm.2.2.2.2.2.2.2.2.2.2.2.2.2.2.2.1.1 dX5_solve_199 ?_
                              refine lv_iload hx hb dX5_solve_202 (lv_at hl 3 rfl) ?_
                              refine lv_lload_n hx hb dX5_solve_204 rfl (lv_at hl 1 rfl) ?_
                              refine lv_lconst (v := 0) hx hb dX5_solve_205 (by decide) ?_
                              refine W.lcmp hx hb dX5_solve_206 ?_
                              refine lv_if_ge (tgt := 221) hx hb dX5_solve_207 (by decide) (fun c207 => ?_) (fun c207 => ?_)
                              · have c207 := (lg_cmp_ge _ _).mp c207
                                refine lv_aload_n hx hb dX5_solve_221 rfl (lv_at hl 0 rfl) ?_
                                refine g_get hC hP hm.1 rfl inX5 17 (by decide) q3_23 hm.2.2.2.2.2.2.2.2.2.2.2.2.2.2.2.1.1 dX5_solve_222 ?_
                                refine lv_iload hx hb dX5_solve_225 (lv_at hl 3 rfl) ?_
                                refine g_lald hC hP hm.2.2.2.2.2.2.2.2.2.2.2.2.2.2.2.1.2 (vp_in_nI (by omega) (by decide)) dX5_solve_227 ?_
                                refine g_topl (y := candX (gsP1 st) u t z4) ((congrArg (J11 (h + 15)) (nI_clamp (by omega))).trans (by rw [m1, shG_15, m2 z4 (by omega), if_neg (by omega)])) ?_
                                refine g_last hC hP hS hTA hm.2.2.2.2.2.2.2.2.2.2.2.2.2.2.2.1.2 (vp_in_nI (by omega) (by decide)) dX5_solve_228 (fun H5 locs6 hP hS hz8 => ?_)
                                rw [show (nI z4).toNatClampNeg = z4 from nI_clamp (by omega)] at hP
                                obtain ⟨J7, hJ7, hP⟩ : ∃ X : gJ, X = au J11 (h + 15) z4 (candX (gsP1 st) u t z4) ∧ gP G T I X Q O H5 := ⟨_, rfl, hP⟩
                                refine lv_lload hx hb dX5_solve_229 (lv_at hl 2 rfl) ?_
                                refine lv_aload_n hx hb dX5_solve_231 rfl (lv_at hl 0 rfl) ?_
                                refine g_get hC hP hm.1 rfl inX5 17 (by decide) q3_23 hm.2.2.2.2.2.2.2.2.2.2.2.2.2.2.2.1.1 dX5_solve_232 ?_
                                refine lv_iload hx hb dX5_solve_235 (lv_at hl 3 rfl) ?_
                                refine g_lald hC hP hm.2.2.2.2.2.2.2.2.2.2.2.2.2.2.2.1.2 (vp_in_nI (by omega) (by decide)) dX5_solve_237 ?_
                                refine g_topl (y := candY (gsP1 st) u t z4) ((congrArg (J7 (h + 15)) (nI_clamp (by omega))).trans (by rw [hJ7, au_row, gu_eq]; exact (by first | exact (cy2 (Int64.not_lt.mpr c207) z4).symm | exact (cy1 (Int64.not_le.mp c207) z4).symm))) ?_
                                refine g_cp (g_rS (As := [.long bb, .long (candY (gsP1 st) u t z4)]) hC (c_X5_common l (a := bb) (b2 := candY (gsP1 st) u t z4) (by rw [m3]; omega) (cy3 z4 (by omega)).1) ⟨q3_123, q3_121, q3_122, q1_6⟩ dd_X5_common ⟨Nat.le_of_ble_eq_true rfl, Nat.le_of_ble_eq_true rfl, rfl, rfl⟩ hl.1 rfl (Nat.le_of_ble_eq_true rfl) dX5_solve_238 ⟨Nat.le_of_ble_eq_true rfl, Nat.le_of_ble_eq_true rfl⟩) ?_
                                refine W.eq (g2 := F0 m 241 ls [.long (gcdL bb (candY (gsP1 st) u t z4))]) rfl ?_
                                refine lv_lstore (lv' := [(6, .long (gcdL bb (candY (gsP1 st) u t z4))), (0, .ref h), (3, .long al), (8, .int (nI z4))]) hx hb dX5_solve_241 hl (by decide) rfl (fun ls hl => ?_)
                                refine lv_iinc (v := nI (z4 + 1)) (lv' := [(8, .int (nI (z4 + 1))), (6, .long (gcdL bb (candY (gsP1 st) u t z4))), (0, .ref h), (3, .long al)]) hx hb dX5_solve_243 hl (k := 3) rfl (nI_inc _) (by decide) rfl (fun ls hl => ?_)
                                refine lv_goto (tgt := 192) hx hb dX5_solve_246 (by decide) ?_
                                exact ih192 (z4 + 1) (gcdL bb (candY (gsP1 st) u t z4)) (gu S4 z4 (candY (gsP1 st) u t z4)) J7 (by omega) (by omega) (by rw [hJ7, m1, shG_set]; exact congrArg (fun q => shG J h X (gu S4 z4 q)) (by first | exact (cy2 (Int64.not_lt.mpr c207) z4).symm | exact (cy1 (Int64.not_le.mp c207) z4).symm)) (fun j hj => by by_cases e : j = z4; (subst e; rw [gu_eq, if_pos (by omega)]); (rw [gu_ne _ _ e, m2 j hj]; by_cases e2 : j < z4; (rw [if_pos e2, if_pos (by omega)]); (rw [if_neg e2, if_neg (by omega)]))) (gcdL_s m3 (by omega) (cy3 z4 (by omega))) _ _ hP hS ls (lv_sub hl [2, 3, 1, 0] rfl)
                              · have c207 := mt (lg_cmp_ge _ _).mpr c207
                                refine lv_aload_n hx hb dX5_solve_210 rfl (lv_at hl 0 rfl) ?_
                                refine g_get hC hP hm.1 rfl inX5 17 (by decide) q3_23 hm.2.2.2.2.2.2.2.2.2.2.2.2.2.2.2.1.1 dX5_solve_211 ?_
                                refine lv_iload hx hb dX5_solve_214 (lv_at hl 3 rfl) ?_
                                refine g_lald hC hP hm.2.2.2.2.2.2.2.2.2.2.2.2.2.2.2.1.2 (vp_in_nI (by omega) (by decide)) dX5_solve_216 ?_
                                refine g_topl (y := candX (gsP1 st) u t z4) ((congrArg (J11 (h + 15)) (nI_clamp (by omega))).trans (by rw [m1, shG_15, m2 z4 (by omega), if_neg (by omega)])) ?_
                                refine lv_lneg hx hb dX5_solve_217 ?_
                                refine lv_goto (tgt := 228) hx hb dX5_solve_218 (by decide) ?_
                                refine g_last hC hP hS hTA hm.2.2.2.2.2.2.2.2.2.2.2.2.2.2.2.1.2 (vp_in_nI (by omega) (by decide)) dX5_solve_228 (fun H9 locs10 hP hS hz12 => ?_)
                                rw [show (nI z4).toNatClampNeg = z4 from nI_clamp (by omega)] at hP
                                obtain ⟨J11, hJ11, hP⟩ : ∃ X : gJ, X = au J11 (h + 15) z4 (-(candX (gsP1 st) u t z4)) ∧ gP G T I X Q O H9 := ⟨_, rfl, hP⟩
                                refine lv_lload hx hb dX5_solve_229 (lv_at hl 2 rfl) ?_
                                refine lv_aload_n hx hb dX5_solve_231 rfl (lv_at hl 0 rfl) ?_
                                refine g_get hC hP hm.1 rfl inX5 17 (by decide) q3_23 hm.2.2.2.2.2.2.2.2.2.2.2.2.2.2.2.1.1 dX5_solve_232 ?_
                                refine lv_iload hx hb dX5_solve_235 (lv_at hl 3 rfl) ?_
                                refine g_lald hC hP hm.2.2.2.2.2.2.2.2.2.2.2.2.2.2.2.1.2 (vp_in_nI (by omega) (by decide)) dX5_solve_237 ?_
                                refine g_topl (y := candY (gsP1 st) u t z4) ((congrArg (J11 (h + 15)) (nI_clamp (by omega))).trans (by rw [hJ11, au_row, gu_eq]; exact (by first | exact (cy2 (Int64.not_lt.mpr c207) z4).symm | exact (cy1 (Int64.not_le.mp c207) z4).symm))) ?_
                                refine g_cp (g_rS (As := [.long bb, .long (candY (gsP1 st) u t z4)]) hC (c_X5_common l (a := bb) (b2 := candY (gsP1 st) u t z4) (by rw [m3]; omega) (cy3 z4 (by omega)).1) ⟨q3_123, q3_121, q3_122, q1_6⟩ dd_X5_common ⟨Nat.le_of_ble_eq_true rfl, Nat.le_of_ble_eq_true rfl, rfl, rfl⟩ hl.1 rfl (Nat.le_of_ble_eq_true rfl) dX5_solve_238 ⟨Nat.le_of_ble_eq_true rfl, Nat.le_of_ble_eq_true rfl⟩) ?_
                                refine W.eq (g2 := F0 m 241 ls [.long (gcdL bb (candY (gsP1 st) u t z4))]) rfl ?_
                                refine lv_lstore (lv' := [(6, .long (gcdL bb (candY (gsP1 st) u t z4))), (0, .ref h), (3, .long al), (8, .int (nI z4))]) hx hb dX5_solve_241 hl (by decide) rfl (fun ls hl => ?_)
                                refine lv_iinc (v := nI (z4 + 1)) (lv' := [(8, .int (nI (z4 + 1))), (6, .long (gcdL bb (candY (gsP1 st) u t z4))), (0, .ref h), (3, .long al)]) hx hb dX5_solve_243 hl (k := 3) rfl (nI_inc _) (by decide) rfl (fun ls hl => ?_)
                                refine lv_goto (tgt := 192) hx hb dX5_solve_246 (by decide) ?_
                                exact ih192 (z4 + 1) (gcdL bb (candY (gsP1 st) u t z4)) (gu S4 z4 (candY (gsP1 st) u t z4)) J11 (by omega) (by omega) (by rw [hJ11, m1, shG_set]; exact congrArg (fun q => shG J h X (gu S4 z4 q)) (by first | exact (cy2 (Int64.not_lt.mpr c207) z4).symm | exact (cy1 (Int64.not_le.mp c207) z4).symm)) (fun j hj => by by_cases e : j = z4; (subst e; rw [gu_eq, if_pos (by omega)]); (rw [gu_ne _ _ e, m2 j hj]; by_cases e2 : j < z4; (rw [if_pos e2, if_pos (by omega)]); (rw [if_neg e2, if_neg (by omega)]))) (gcdL_s m3 (by omega) (cy3 z4 (by omega))) _ _ hP hS ls (lv_sub hl [2, 3, 1, 0] rfl)
                        exact L192 5 0 (0 : Int64) S2 J10 (by omega) (by omega) g1 (fun j hj => by rw [if_neg (Nat.not_lt_zero j), g2 j hj]; exact shF_all hu hj ez) i64_20.2.2 _ _ hP hS ls (lv_sub hl [2, 5, 1, 0] rfl)
                      · have c181 := gb_f c181
                        refine lv_iconst (v := nI 0) hx hb dX5_solve_184 (by decide) ?_
                        refine g_retcz hC hS (b := false) (by decide) ?_ dX5_solve_185
                        refine ⟨X, S2, by rw [← g1]; exact hP, Or.inl ⟨?_, rfl⟩⟩
                        rw [← cg1, ← show z3 = popc u from by omega, ← k1]
                        exact c181
                    · have c111 := mt (nI_leI (by omega) (by omega)).mpr c111
                      have nl3 := nth_lt u z3
                      refine lv_aload_n hx hb dX5_solve_114 rfl (lv_at hl 0 rfl) ?_
                      refine g_get hC hP hm.1 rfl inX5 17 (by decide) q3_23 hm.2.2.2.2.2.2.2.2.2.2.2.2.2.2.2.1.1 dX5_solve_115 ?_
                      refine lv_aload_n hx hb dX5_solve_118 rfl (lv_at hl 0 rfl) ?_
                      refine g_get hC hP hm.1 rfl inX5 15 (by decide) q3_21 hm.2.2.2.2.2.2.2.2.2.2.2.2.2.1.1 dX5_solve_119 ?_
                      refine lv_iload hx hb dX5_solve_122 (lv_at hl 5 rfl) ?_
                      refine g_iald hC hP hm.2.2.2.2.2.2.2.2.2.2.2.2.2.1.2 (vp_in_nI (by omega) (by decide)) dX5_solve_124 ?_
                      refine g_topi (y := nI (nth u z3)) ((congrArg (I (h + 13)) (nI_clamp (by omega))).trans (hch z3 (by omega))) ?_
                      refine g_lald hC hP hm.2.2.2.2.2.2.2.2.2.2.2.2.2.2.2.1.2 (vp_in_nI (nth_lt _ _) (by decide)) dX5_solve_125 ?_
                      refine g_topl (y := candX (gsP1 st) u t (nth u z3)) ((congrArg (J10 (h + 15)) (nI_clamp (by omega))).trans (by rw [g1, shG_15, g2 _ (nth_lt _ _)]; exact shF_at hu (by omega) ez)) ?_
                      refine lv_lstore (lv' := [(7, .long (candX (gsP1 st) u t (nth u z3))), (0, .ref h), (1, .int (nI 0)), (2, .int (nI kk)), (3, .long al), (5, .int (gb gd)), (6, .int (nI z3))]) hx hb dX5_solve_126 hl (by decide) rfl (fun ls hl => ?_)
                      refine lv_iload hx hb dX5_solve_128 (lv_at hl 5 rfl) ?_
                      refine lv_if_eq (tgt := 170) hx hb dX5_solve_130 (by decide) (fun c130 => ?_) (fun c130 => ?_)
                      · have c130 := gb_f c130
                        refine lv_iconst (v := nI 0) hx hb dX5_solve_170 (by decide) ?_
                        refine lv_istore (lv' := [(5, .int (nI 0)), (7, .long (candX (gsP1 st) u t (nth u z3))), (0, .ref h), (1, .int (nI 0)), (2, .int (nI kk)), (3, .long al), (6, .int (nI z3))]) hx hb dX5_solve_171 hl (by decide) rfl (fun ls hl => ?_)
                        refine lv_iinc (v := nI (z3 + 1)) (lv' := [(6, .int (nI (z3 + 1))), (5, .int (nI 0)), (7, .long (candX (gsP1 st) u t (nth u z3))), (0, .ref h), (1, .int (nI 0)), (2, .int (nI kk)), (3, .long al)]) hx hb dX5_solve_173 hl (k := 6) rfl (nI_inc _) (by decide) rfl (fun ls hl => ?_)
                        refine lv_goto (tgt := 108) hx hb dX5_solve_176 (by decide) ?_
                        exact ih108 (z3 + 1) false (by omega) (by omega) (by show _ = (gdF _ _ _ z3 && (!decide _ && (decide _ == decide _))); rw [← k1]; first | (rw [c130]; rfl) | (rw [c130, decide_eq_true c137]; rfl) | (rw [c130, decide_eq_false c137, decide_eq_false (Int64.not_lt.mpr c144), decide_eq_false (Int64.not_lt.mpr c155)]; rfl) | (rw [c130, decide_eq_false c137, decide_eq_false (Int64.not_lt.mpr c144), decide_eq_true (Int64.not_le.mp c155)]; rfl) | (rw [c130, decide_eq_false c137, decide_eq_true (Int64.not_le.mp c144), decide_eq_false (Int64.not_lt.mpr c155)]; rfl) | (rw [c130, decide_eq_false c137, decide_eq_true (Int64.not_le.mp c144), decide_eq_true (Int64.not_le.mp c155)]; rfl)) _ _ hP hS ls (lv_sub hl [3, 4, 5, 6, 1, 0] rfl)
                      · have c130 := gb_t c130
                        refine lv_lload hx hb dX5_solve_133 (lv_at hl 0 rfl) ?_
                        refine lv_lconst (v := 0) hx hb dX5_solve_135 (by decide) ?_
                        refine W.lcmp hx hb dX5_solve_136 ?_
                        refine lv_if_eq (tgt := 170) hx hb dX5_solve_137 (by decide) (fun c137 => ?_) (fun c137 => ?_)
                        · have c137 := (lg_cmp_eq _ _).mp c137
                          refine lv_iconst (v := nI 0) hx hb dX5_solve_170 (by decide) ?_
                          refine lv_istore (lv' := [(5, .int (nI 0)), (7, .long (candX (gsP1 st) u t (nth u z3))), (0, .ref h), (1, .int (nI 0)), (2, .int (nI kk)), (3, .long al), (6, .int (nI z3))]) hx hb dX5_solve_171 hl (by decide) rfl (fun ls hl => ?_)
                          refine lv_iinc (v := nI (z3 + 1)) (lv' := [(6, .int (nI (z3 + 1))), (5, .int (nI 0)), (7, .long (candX (gsP1 st) u t (nth u z3))), (0, .ref h), (1, .int (nI 0)), (2, .int (nI kk)), (3, .long al)]) hx hb dX5_solve_173 hl (k := 6) rfl (nI_inc _) (by decide) rfl (fun ls hl => ?_)
                          refine lv_goto (tgt := 108) hx hb dX5_solve_176 (by decide) ?_
                          exact ih108 (z3 + 1) false (by omega) (by omega) (by show _ = (gdF _ _ _ z3 && (!decide _ && (decide _ == decide _))); rw [← k1]; first | (rw [c130]; rfl) | (rw [c130, decide_eq_true c137]; rfl) | (rw [c130, decide_eq_false c137, decide_eq_false (Int64.not_lt.mpr c144), decide_eq_false (Int64.not_lt.mpr c155)]; rfl) | (rw [c130, decide_eq_false c137, decide_eq_false (Int64.not_lt.mpr c144), decide_eq_true (Int64.not_le.mp c155)]; rfl) | (rw [c130, decide_eq_false c137, decide_eq_true (Int64.not_le.mp c144), decide_eq_false (Int64.not_lt.mpr c155)]; rfl) | (rw [c130, decide_eq_false c137, decide_eq_true (Int64.not_le.mp c144), decide_eq_true (Int64.not_le.mp c155)]; rfl)) _ _ hP hS ls (lv_sub hl [3, 4, 5, 6, 1, 0] rfl)
                        · have c137 := mt (lg_cmp_eq _ _).mpr c137
                          refine lv_lload hx hb dX5_solve_140 (lv_at hl 0 rfl) ?_
                          refine lv_lconst (v := 0) hx hb dX5_solve_142 (by decide) ?_
                          refine W.lcmp hx hb dX5_solve_143 ?_
                          refine lv_if_le (tgt := 151) hx hb dX5_solve_144 (by decide) (fun c144 => ?_) (fun c144 => ?_)
                          · have c144 := (lg_cmp_le _ _).mp c144
                            refine lv_iconst (v := nI 0) hx hb dX5_solve_151 (by decide) ?_
                            refine lv_lload_n hx hb dX5_solve_152 rfl (lv_at hl 4 rfl) ?_
                            refine lv_lconst (v := 0) hx hb dX5_solve_153 (by decide) ?_
                            refine W.lcmp hx hb dX5_solve_154 ?_
                            refine lv_if_le (tgt := 162) hx hb dX5_solve_155 (by decide) (fun c155 => ?_) (fun c155 => ?_)
                            · have c155 := (lg_cmp_le _ _).mp c155
                              refine lv_iconst (v := nI 0) hx hb dX5_solve_162 (by decide) ?_
                              refine lv_icmp_ne (tgt := 170) hx hb dX5_solve_163 (by decide) (fun q => absurd (by decide) q) (fun _ => ?_)
                              refine lv_iconst (v := nI 1) hx hb dX5_solve_166 (by decide) ?_
                              refine lv_goto (tgt := 171) hx hb dX5_solve_167 (by decide) ?_
                              refine lv_istore (lv' := [(5, .int (nI 1)), (7, .long (candX (gsP1 st) u t (nth u z3))), (0, .ref h), (1, .int (nI 0)), (2, .int (nI kk)), (3, .long al), (6, .int (nI z3))]) hx hb dX5_solve_171 hl (by decide) rfl (fun ls hl => ?_)
                              refine lv_iinc (v := nI (z3 + 1)) (lv' := [(6, .int (nI (z3 + 1))), (5, .int (nI 1)), (7, .long (candX (gsP1 st) u t (nth u z3))), (0, .ref h), (1, .int (nI 0)), (2, .int (nI kk)), (3, .long al)]) hx hb dX5_solve_173 hl (k := 6) rfl (nI_inc _) (by decide) rfl (fun ls hl => ?_)
                              refine lv_goto (tgt := 108) hx hb dX5_solve_176 (by decide) ?_
                              exact ih108 (z3 + 1) true (by omega) (by omega) (by show _ = (gdF _ _ _ z3 && (!decide _ && (decide _ == decide _))); rw [← k1]; first | (rw [c130]; rfl) | (rw [c130, decide_eq_true c137]; rfl) | (rw [c130, decide_eq_false c137, decide_eq_false (Int64.not_lt.mpr c144), decide_eq_false (Int64.not_lt.mpr c155)]; rfl) | (rw [c130, decide_eq_false c137, decide_eq_false (Int64.not_lt.mpr c144), decide_eq_true (Int64.not_le.mp c155)]; rfl) | (rw [c130, decide_eq_false c137, decide_eq_true (Int64.not_le.mp c144), decide_eq_false (Int64.not_lt.mpr c155)]; rfl) | (rw [c130, decide_eq_false c137, decide_eq_true (Int64.not_le.mp c144), decide_eq_true (Int64.not_le.mp c155)]; rfl)) _ _ hP hS ls (lv_sub hl [3, 4, 5, 6, 1, 0] rfl)
                            · have c155 := mt (lg_cmp_le _ _).mpr c155
                              refine lv_iconst (v := nI 1) hx hb dX5_solve_158 (by decide) ?_
                              refine lv_goto (tgt := 163) hx hb dX5_solve_159 (by decide) ?_
                              refine lv_icmp_ne (tgt := 170) hx hb dX5_solve_163 (by decide) (fun _ => ?_) (fun q => absurd q (by decide))
                              refine lv_iconst (v := nI 0) hx hb dX5_solve_170 (by decide) ?_
                              refine lv_istore (lv' := [(5, .int (nI 0)), (7, .long (candX (gsP1 st) u t (nth u z3))), (0, .ref h), (1, .int (nI 0)), (2, .int (nI kk)), (3, .long al), (6, .int (nI z3))]) hx hb dX5_solve_171 hl (by decide) rfl (fun ls hl => ?_)
                              refine lv_iinc (v := nI (z3 + 1)) (lv' := [(6, .int (nI (z3 + 1))), (5, .int (nI 0)), (7, .long (candX (gsP1 st) u t (nth u z3))), (0, .ref h), (1, .int (nI 0)), (2, .int (nI kk)), (3, .long al)]) hx hb dX5_solve_173 hl (k := 6) rfl (nI_inc _) (by decide) rfl (fun ls hl => ?_)
                              refine lv_goto (tgt := 108) hx hb dX5_solve_176 (by decide) ?_
                              exact ih108 (z3 + 1) false (by omega) (by omega) (by show _ = (gdF _ _ _ z3 && (!decide _ && (decide _ == decide _))); rw [← k1]; first | (rw [c130]; rfl) | (rw [c130, decide_eq_true c137]; rfl) | (rw [c130, decide_eq_false c137, decide_eq_false (Int64.not_lt.mpr c144), decide_eq_false (Int64.not_lt.mpr c155)]; rfl) | (rw [c130, decide_eq_false c137, decide_eq_false (Int64.not_lt.mpr c144), decide_eq_true (Int64.not_le.mp c155)]; rfl) | (rw [c130, decide_eq_false c137, decide_eq_true (Int64.not_le.mp c144), decide_eq_false (Int64.not_lt.mpr c155)]; rfl) | (rw [c130, decide_eq_false c137, decide_eq_true (Int64.not_le.mp c144), decide_eq_true (Int64.not_le.mp c155)]; rfl)) _ _ hP hS ls (lv_sub hl [3, 4, 5, 6, 1, 0] rfl)
                          · have c144 := mt (lg_cmp_le _ _).mpr c144
                            refine lv_iconst (v := nI 1) hx hb dX5_solve_147 (by decide) ?_
                            refine lv_goto (tgt := 152) hx hb dX5_solve_148 (by decide) ?_
                            refine lv_lload_n hx hb dX5_solve_152 rfl (lv_at hl 4 rfl) ?_
                            refine lv_lconst (v := 0) hx hb dX5_solve_153 (by decide) ?_
                            refine W.lcmp hx hb dX5_solve_154 ?_
                            refine lv_if_le (tgt := 162) hx hb dX5_solve_155 (by decide) (fun c155 => ?_) (fun c155 => ?_)
                            · have c155 := (lg_cmp_le _ _).mp c155
                              refine lv_iconst (v := nI 0) hx hb dX5_solve_162 (by decide) ?_
                              refine lv_icmp_ne (tgt := 170) hx hb dX5_solve_163 (by decide) (fun _ => ?_) (fun q => absurd q (by decide))
                              refine lv_iconst (v := nI 0) hx hb dX5_solve_170 (by decide) ?_
                              refine lv_istore (lv' := [(5, .int (nI 0)), (7, .long (candX (gsP1 st) u t (nth u z3))), (0, .ref h), (1, .int (nI 0)), (2, .int (nI kk)), (3, .long al), (6, .int (nI z3))]) hx hb dX5_solve_171 hl (by decide) rfl (fun ls hl => ?_)
                              refine lv_iinc (v := nI (z3 + 1)) (lv' := [(6, .int (nI (z3 + 1))), (5, .int (nI 0)), (7, .long (candX (gsP1 st) u t (nth u z3))), (0, .ref h), (1, .int (nI 0)), (2, .int (nI kk)), (3, .long al)]) hx hb dX5_solve_173 hl (k := 6) rfl (nI_inc _) (by decide) rfl (fun ls hl => ?_)
                              refine lv_goto (tgt := 108) hx hb dX5_solve_176 (by decide) ?_
                              exact ih108 (z3 + 1) false (by omega) (by omega) (by show _ = (gdF _ _ _ z3 && (!decide _ && (decide _ == decide _))); rw [← k1]; first | (rw [c130]; rfl) | (rw [c130, decide_eq_true c137]; rfl) | (rw [c130, decide_eq_false c137, decide_eq_false (Int64.not_lt.mpr c144), decide_eq_false (Int64.not_lt.mpr c155)]; rfl) | (rw [c130, decide_eq_false c137, decide_eq_false (Int64.not_lt.mpr c144), decide_eq_true (Int64.not_le.mp c155)]; rfl) | (rw [c130, decide_eq_false c137, decide_eq_true (Int64.not_le.mp c144), decide_eq_false (Int64.not_lt.mpr c155)]; rfl) | (rw [c130, decide_eq_false c137, decide_eq_true (Int64.not_le.mp c144), decide_eq_true (Int64.not_le.mp c155)]; rfl)) _ _ hP hS ls (lv_sub hl [3, 4, 5, 6, 1, 0] rfl)
                            · have c155 := mt (lg_cmp_le _ _).mpr c155
                              refine lv_iconst (v := nI 1) hx hb dX5_solve_158 (by decide) ?_
                              refine lv_goto (tgt := 163) hx hb dX5_solve_159 (by decide) ?_
                              refine lv_icmp_ne (tgt := 170) hx hb dX5_solve_163 (by decide) (fun q => absurd (by decide) q) (fun _ => ?_)
                              refine lv_iconst (v := nI 1) hx hb dX5_solve_166 (by decide) ?_
                              refine lv_goto (tgt := 171) hx hb dX5_solve_167 (by decide) ?_
                              refine lv_istore (lv' := [(5, .int (nI 1)), (7, .long (candX (gsP1 st) u t (nth u z3))), (0, .ref h), (1, .int (nI 0)), (2, .int (nI kk)), (3, .long al), (6, .int (nI z3))]) hx hb dX5_solve_171 hl (by decide) rfl (fun ls hl => ?_)
                              refine lv_iinc (v := nI (z3 + 1)) (lv' := [(6, .int (nI (z3 + 1))), (5, .int (nI 1)), (7, .long (candX (gsP1 st) u t (nth u z3))), (0, .ref h), (1, .int (nI 0)), (2, .int (nI kk)), (3, .long al)]) hx hb dX5_solve_173 hl (k := 6) rfl (nI_inc _) (by decide) rfl (fun ls hl => ?_)
                              refine lv_goto (tgt := 108) hx hb dX5_solve_176 (by decide) ?_
                              exact ih108 (z3 + 1) true (by omega) (by omega) (by show _ = (gdF _ _ _ z3 && (!decide _ && (decide _ == decide _))); rw [← k1]; first | (rw [c130]; rfl) | (rw [c130, decide_eq_true c137]; rfl) | (rw [c130, decide_eq_false c137, decide_eq_false (Int64.not_lt.mpr c144), decide_eq_false (Int64.not_lt.mpr c155)]; rfl) | (rw [c130, decide_eq_false c137, decide_eq_false (Int64.not_lt.mpr c144), decide_eq_true (Int64.not_le.mp c155)]; rfl) | (rw [c130, decide_eq_false c137, decide_eq_true (Int64.not_le.mp c144), decide_eq_false (Int64.not_lt.mpr c155)]; rfl) | (rw [c130, decide_eq_false c137, decide_eq_true (Int64.not_le.mp c144), decide_eq_true (Int64.not_le.mp c155)]; rfl)) _ _ hP hS ls (lv_sub hl [3, 4, 5, 6, 1, 0] rfl)
                exact L108 5 0 false (by omega) (by omega) (by show _ = !decide _; first | (rw [decide_eq_true c95]; rfl) | (rw [decide_eq_false c95]; rfl)) _ _ hP hS ls (lv_sub hl [2, 3, 4, 5, 1, 0] rfl)
              · have c95 := mt (lg_cmp_eq _ _).mpr c95
                refine lv_iconst (v := nI 1) hx hb dX5_solve_98 (by decide) ?_
                refine lv_goto (tgt := 103) hx hb dX5_solve_99 (by decide) ?_
                refine lv_istore (lv' := [(5, .int (nI 1)), (0, .ref h), (1, .int (nI 0)), (2, .int (nI kk)), (3, .long al)]) hx hb dX5_solve_103 hl (by decide) rfl (fun ls hl => ?_)
                refine lv_iconst (v := nI 0) hx hb dX5_solve_105 (by decide) ?_
                refine lv_istore (lv' := [(6, .int (nI 0)), (5, .int (nI 1)), (0, .ref h), (1, .int (nI 0)), (2, .int (nI kk)), (3, .long al)]) hx hb dX5_solve_106 hl (by decide) rfl (fun ls hl => ?_)
                have L108 : ∀ (n108 : Nat) (z3 : Nat) (gd : Bool), 5 ≤ n108 + z3 → (z3 ≤ kk) → (gd = gdF (candX (gsP1 st) u t) u al z3) → ∀ (Hl : Heap) (lcl : List Loc), gP G T I J10 Q O Hl → va_S A s.heap Hl lcl → ∀ ls : Array Slot, lv_has ls 9 [(0, .ref h), (1, .int (nI 0)), (2, .int (nI kk)), (3, .long al), (5, .int (gb gd)), (6, .int (nI z3))] → W p l e ({ frames := 2, cells := 0, slots := 0, locals := 49 } : Room) s m [.ref h, .int (nI 0), .int (nI kk)].toArray below meth c Hl lcl 0 0 (MQ below (gQc A (fun r H1 => ∃ (X S : Nat → Int64), gP G T I (shG J h X S) Q O H1 ∧ ((posOK (candX (gsP1 st) u t) u = false ∧ r = some (.int (gb false))) ∨ (posOK (candX (gsP1 st) u t) u = true ∧ r = some (.int (gb true)) ∧ ∃ D : Int, 0 < D ∧ ∀ j, j < 4 → (candY (gsP1 st) u t j).toInt = D * (S j).toInt)))) [.ref h, .int (nI 0), .int (nI kk)].toArray s 0 0 A) (F0 m 108 ls []) := by
                  intro n108
                  induction n108 with
                  | zero => intro z3 gd hn108 hz3 k1; exact absurd hn108 (by omega)
                  | succ n108 ih108 =>
                    intro z3 gd hn108 hz3 k1 Hl lcl hP hS ls hl
                    refine lv_iload hx hb dX5_solve_108 (lv_at hl 5 rfl) ?_
                    refine lv_iload_n hx hb dX5_solve_110 rfl (lv_at hl 2 rfl) ?_
                    refine lv_icmp_ge (tgt := 179) hx hb dX5_solve_111 (by decide) (fun c111 => ?_) (fun c111 => ?_)
                    · have c111 := (nI_leI (by omega) (by omega)).mp c111
                      refine lv_iload hx hb dX5_solve_179 (lv_at hl 4 rfl) ?_
                      refine lv_if_ne (tgt := 186) hx hb dX5_solve_181 (by decide) (fun c181 => ?_) (fun c181 => ?_)
                      · have c181 := gb_t c181
                        have ez3 : z3 = popc u := by omega
                        have hpos : posOK (candX (gsP1 st) u t) u = true := by rw [← cg1, ← ez3, ← k1]; exact c181
                        obtain ⟨cy1, cy2, cy3, cy4, cy5⟩ := cg2 hpos
                        refine lv_lconst (v := 0) hx hb dX5_solve_186 (by decide) ?_
                        refine lv_lstore (lv' := [(6, .long (0 : Int64)), (0, .ref h), (1, .int (nI 0)), (2, .int (nI kk)), (3, .long al), (5, .int (gb gd))]) hx hb dX5_solve_187 hl (by decide) rfl (fun ls hl => ?_)
                        refine lv_iconst (v := nI 0) hx hb dX5_solve_189 (by decide) ?_
                        refine lv_istore (lv' := [(8, .int (nI 0)), (6, .long (0 : Int64)), (0, .ref h), (1, .int (nI 0)), (2, .int (nI kk)), (3, .long al), (5, .int (gb gd))]) hx hb dX5_solve_190 hl (by decide) rfl (fun ls hl => ?_)
                        have L192 : ∀ (n192 : Nat) (z4 : Nat) (bb : Int64) (S4 : Nat → Int64) (J11 : gJ), 5 ≤ n192 + z4 → (z4 ≤ 4) → (J11 = shG J h X S4) → (∀ j, j < 4 → S4 j = if j < z4 then candY (gsP1 st) u t j else candX (gsP1 st) u t j) → (bb.toInt = (gNF (candY (gsP1 st) u t) z4 : Nat)) → ∀ (Hl : Heap) (lcl : List Loc), gP G T I J11 Q O Hl → va_S A s.heap Hl lcl → ∀ ls : Array Slot, lv_has ls 9 [(0, .ref h), (3, .long al), (6, .long bb), (8, .int (nI z4))] → W p l e ({ frames := 2, cells := 0, slots := 0, locals := 49 } : Room) s m [.ref h, .int (nI 0), .int (nI kk)].toArray below meth c Hl lcl 0 0 (MQ below (gQc A (fun r H1 => ∃ (X S : Nat → Int64), gP G T I (shG J h X S) Q O H1 ∧ ((posOK (candX (gsP1 st) u t) u = false ∧ r = some (.int (gb false))) ∨ (posOK (candX (gsP1 st) u t) u = true ∧ r = some (.int (gb true)) ∧ ∃ D : Int, 0 < D ∧ ∀ j, j < 4 → (candY (gsP1 st) u t j).toInt = D * (S j).toInt)))) [.ref h, .int (nI 0), .int (nI kk)].toArray s 0 0 A) (F0 m 192 ls []) := by
                          intro n192
                          induction n192 with
                          | zero => intro z4 bb S4 J11 hn192 hz4 m1 m2 m3; exact absurd hn192 (by omega)
                          | succ n192 ih192 =>
                            intro z4 bb S4 J11 hn192 hz4 m1 m2 m3 Hl lcl hP hS ls hl
                            have gl := gN_le cy3 z4 hz4
                            refine lv_iload hx hb dX5_solve_192 (lv_at hl 3 rfl) ?_
                            refine lv_iconst (v := nI 4) hx hb dX5_solve_194 (by decide) ?_
                            refine lv_icmp_ge (tgt := 249) hx hb dX5_solve_195 (by decide) (fun c195 => ?_) (fun c195 => ?_)
                            · have c195 := (nI_leI (by omega) (by omega)).mp c195
                              have e4 : z4 = 4 := by omega
                              rw [e4] at m3
                              have gp : 0 < gNF (candY (gsP1 st) u t) 4 := gN_pos (nth_lt u 0) (cy4 _ (nth_lt u 0) (nth_ok hu (by omega)).1)
                              have bn : ¬ bb = 0 := fun e => by rw [e, i64_20.2.2] at m3; omega
                              refine lv_iconst (v := nI 0) hx hb dX5_solve_249 (by decide) ?_
                              refine lv_istore (lv' := [(8, .int (nI 0)), (0, .ref h), (3, .long al), (6, .long bb)]) hx hb dX5_solve_250 hl (by decide) rfl (fun ls hl => ?_)
                              have L252 : ∀ (n252 : Nat) (z5 : Nat) (S5 : Nat → Int64) (J12 : gJ), 5 ≤ n252 + z5 → (z5 ≤ 4) → (J12 = shG J h X S5) → (∀ j, j < 4 → S5 j = if j < z5 then candY (gsP1 st) u t j / bb else candY (gsP1 st) u t j) → ∀ (Hl : Heap) (lcl : List Loc), gP G T I J12 Q O Hl → va_S A s.heap Hl lcl → ∀ ls : Array Slot, lv_has ls 9 [(0, .ref h), (6, .long bb), (8, .int (nI z5))] → W p l e ({ frames := 2, cells := 0, slots := 0, locals := 49 } : Room) s m [.ref h, .int (nI 0), .int (nI kk)].toArray below meth c Hl lcl 0 0 (MQ below (gQc A (fun r H1 => ∃ (X S : Nat → Int64), gP G T I (shG J h X S) Q O H1 ∧ ((posOK (candX (gsP1 st) u t) u = false ∧ r = some (.int (gb false))) ∨ (posOK (candX (gsP1 st) u t) u = true ∧ r = some (.int (gb true)) ∧ ∃ D : Int, 0 < D ∧ ∀ j, j < 4 → (candY (gsP1 st) u t j).toInt = D * (S j).toInt)))) [.ref h, .int (nI 0), .int (nI kk)].toArray s 0 0 A) (F0 m 252 ls []) := by
                                intro n252
                                induction n252 with
                                | zero => intro z5 S5 J12 hn252 hz5 o1 o2; exact absurd hn252 (by omega)
                                | succ n252 ih252 =>
                                  intro z5 S5 J12 hn252 hz5 o1 o2 Hl lcl hP hS ls hl
                                  refine lv_iload hx hb dX5_solve_252 (lv_at hl 2 rfl) ?_
                                  refine lv_iconst (v := nI 4) hx hb dX5_solve_254 (by decide) ?_
                                  refine lv_icmp_ge (tgt := 276) hx hb dX5_solve_255 (by decide) (fun c255 => ?_) (fun c255 => ?_)
                                  · have c255 := (nI_leI (by omega) (by omega)).mp c255
                                    refine lv_iconst (v := nI 1) hx hb dX5_solve_276 (by decide) ?_
                                    refine g_retcz hC hS (b := true) (by decide) ?_ dX5_solve_277
                                    exact ⟨X, S5, by rw [← o1]; exact hP, Or.inr ⟨hpos, rfl, (gNF (candY (gsP1 st) u t) 4 : Nat), by omega, fun j hj => by rw [o2 j hj, if_pos (by omega)]; exact red_I (cy3 j hj).1 m3 gp (gN_dvd 4 j hj)⟩⟩
                                  · have c255 := mt (nI_leI (by omega) (by omega)).mpr c255
                                    refine lv_aload_n hx hb dX5_solve_258 rfl (lv_at hl 0 rfl) ?_
                                    refine g_get hC hP hm.1 rfl inX5 17 (by decide) q3_23 hm.2.2.2.2.2.2.2.2.2.2.2.2.2.2.2.1.1 dX5_solve_259 ?_
                                    refine lv_iload hx hb dX5_solve_262 (lv_at hl 2 rfl) ?_
                                    refine lv_dup2_11 hx hb dX5_solve_264 rfl rfl ?_
                                    refine g_lald hC hP hm.2.2.2.2.2.2.2.2.2.2.2.2.2.2.2.1.2 (vp_in_nI (by omega) (by decide)) dX5_solve_265 ?_
                                    refine g_topl (y := candY (gsP1 st) u t z5) ((congrArg (J12 (h + 15)) (nI_clamp (by omega))).trans (by rw [o1, shG_15, o2 z5 (by omega), if_neg (by omega)])) ?_
                                    refine lv_lload hx hb dX5_solve_266 (lv_at hl 1 rfl) ?_
                                    refine lv_ldiv hx hb dX5_solve_268 bn ?_
                                    refine g_last hC hP hS hTA hm.2.2.2.2.2.2.2.2.2.2.2.2.2.2.2.1.2 (vp_in_nI (by omega) (by decide)) dX5_solve_269 (fun H13 locs14 hP hS hz16 => ?_)
                                    rw [show (nI z5).toNatClampNeg = z5 from nI_clamp (by omega)] at hP
                                    obtain ⟨J15, hJ15, hP⟩ : ∃ X : gJ, X = au J12 (h + 15) z5 ((candY (gsP1 st) u t z5) / bb) ∧ gP G T I X Q O H13 := ⟨_, rfl, hP⟩
                                    refine lv_iinc (v := nI (z5 + 1)) (lv' := [(8, .int (nI (z5 + 1))), (0, .ref h), (6, .long bb)]) hx hb dX5_solve_270 hl (k := 2) rfl (nI_inc _) (by decide) rfl (fun ls hl => ?_)
                                    refine lv_goto (tgt := 252) hx hb dX5_solve_273 (by decide) ?_
                                    exact ih252 (z5 + 1) (gu S5 z5 (candY (gsP1 st) u t z5 / bb)) J15 (by omega) (by omega) (by rw [hJ15, o1, shG_set]) (fun j hj => by by_cases e : j = z5; (subst e; rw [gu_eq, if_pos (by omega)]); (rw [gu_ne _ _ e, o2 j hj]; by_cases e2 : j < z5; (rw [if_pos e2, if_pos (by omega)]); (rw [if_neg e2, if_neg (by omega)]))) _ _ hP hS ls (lv_sub hl [1, 2, 0] rfl)
                              exact L252 5 0 S4 J11 (by omega) (by omega) m1 (fun j hj => by rw [if_neg (Nat.not_lt_zero j), m2 j hj, if_pos (by omega)]) _ _ hP hS ls (lv_sub hl [1, 3, 0] rfl)
                            · have c195 := mt (nI_leI (by omega) (by omega)).mpr c195
                              refine lv_aload_n hx hb dX5_solve_198 rfl (lv_at hl 0 rfl) ?_
                              refine g_get hC hP hm.1 rfl inX5 17 (by decide) q3_23 hm.2.2.2.2.2.2.2.2.2.2.2.2.2.2.2.1.1 dX5_solve_199 ?_
                              refine lv_iload hx hb dX5_solve_202 (lv_at hl 3 rfl) ?_
                              refine lv_lload_n hx hb dX5_solve_204 rfl (lv_at hl 1 rfl) ?_
                              refine lv_lconst (v := 0) hx hb dX5_solve_205 (by decide) ?_
                              refine W.lcmp hx hb dX5_solve_206 ?_
                              refine lv_if_ge (tgt := 221) hx hb dX5_solve_207 (by decide) (fun c207 => ?_) (fun c207 => ?_)
                              · have c207 := (lg_cmp_ge _ _).mp c207
                                refine lv_aload_n hx hb dX5_solve_221 rfl (lv_at hl 0 rfl) ?_
                                refine g_get hC hP hm.1 rfl inX5 17 (by decide) q3_23 hm.2.2.2.2.2.2.2.2.2.2.2.2.2.2.2.1.1 dX5_solve_222 ?_
                                refine lv_iload hx hb dX5_solve_225 (lv_at hl 3 rfl) ?_
                                refine g_lald hC hP hm.2.2.2.2.2.2.2.2.2.2.2.2.2.2.2.1.2 (vp_in_nI (by omega) (by decide)) dX5_solve_227 ?_
                                refine g_topl (y := candX (gsP1 st) u t z4) ((congrArg (J11 (h + 15)) (nI_clamp (by omega))).trans (by rw [m1, shG_15, m2 z4 (by omega), if_neg (by omega)])) ?_
                                refine g_last hC hP hS hTA hm.2.2.2.2.2.2.2.2.2.2.2.2.2.2.2.1.2 (vp_in_nI (by omega) (by decide)) dX5_solve_228 (fun H17 locs18 hP hS hz20 => ?_)
                                rw [show (nI z4).toNatClampNeg = z4 from nI_clamp (by omega)] at hP
                                obtain ⟨J19, hJ19, hP⟩ : ∃ X : gJ, X = au J11 (h + 15) z4 (candX (gsP1 st) u t z4) ∧ gP G T I X Q O H17 := ⟨_, rfl, hP⟩
                                refine lv_lload hx hb dX5_solve_229 (lv_at hl 2 rfl) ?_
                                refine lv_aload_n hx hb dX5_solve_231 rfl (lv_at hl 0 rfl) ?_
                                refine g_get hC hP hm.1 rfl inX5 17 (by decide) q3_23 hm.2.2.2.2.2.2.2.2.2.2.2.2.2.2.2.1.1 dX5_solve_232 ?_
                                refine lv_iload hx hb dX5_solve_235 (lv_at hl 3 rfl) ?_
                                refine g_lald hC hP hm.2.2.2.2.2.2.2.2.2.2.2.2.2.2.2.1.2 (vp_in_nI (by omega) (by decide)) dX5_solve_237 ?_
                                refine g_topl (y := candY (gsP1 st) u t z4) ((congrArg (J19 (h + 15)) (nI_clamp (by omega))).trans (by rw [hJ19, au_row, gu_eq]; exact (by first | exact (cy2 (Int64.not_lt.mpr c207) z4).symm | exact (cy1 (Int64.not_le.mp c207) z4).symm))) ?_
                                refine g_cp (g_rS (As := [.long bb, .long (candY (gsP1 st) u t z4)]) hC (c_X5_common l (a := bb) (b2 := candY (gsP1 st) u t z4) (by rw [m3]; omega) (cy3 z4 (by omega)).1) ⟨q3_123, q3_121, q3_122, q1_6⟩ dd_X5_common ⟨Nat.le_of_ble_eq_true rfl, Nat.le_of_ble_eq_true rfl, rfl, rfl⟩ hl.1 rfl (Nat.le_of_ble_eq_true rfl) dX5_solve_238 ⟨Nat.le_of_ble_eq_true rfl, Nat.le_of_ble_eq_true rfl⟩) ?_
                                refine W.eq (g2 := F0 m 241 ls [.long (gcdL bb (candY (gsP1 st) u t z4))]) rfl ?_
                                refine lv_lstore (lv' := [(6, .long (gcdL bb (candY (gsP1 st) u t z4))), (0, .ref h), (3, .long al), (8, .int (nI z4))]) hx hb dX5_solve_241 hl (by decide) rfl (fun ls hl => ?_)
                                refine lv_iinc (v := nI (z4 + 1)) (lv' := [(8, .int (nI (z4 + 1))), (6, .long (gcdL bb (candY (gsP1 st) u t z4))), (0, .ref h), (3, .long al)]) hx hb dX5_solve_243 hl (k := 3) rfl (nI_inc _) (by decide) rfl (fun ls hl => ?_)
                                refine lv_goto (tgt := 192) hx hb dX5_solve_246 (by decide) ?_
                                exact ih192 (z4 + 1) (gcdL bb (candY (gsP1 st) u t z4)) (gu S4 z4 (candY (gsP1 st) u t z4)) J19 (by omega) (by omega) (by rw [hJ19, m1, shG_set]; exact congrArg (fun q => shG J h X (gu S4 z4 q)) (by first | exact (cy2 (Int64.not_lt.mpr c207) z4).symm | exact (cy1 (Int64.not_le.mp c207) z4).symm)) (fun j hj => by by_cases e : j = z4; (subst e; rw [gu_eq, if_pos (by omega)]); (rw [gu_ne _ _ e, m2 j hj]; by_cases e2 : j < z4; (rw [if_pos e2, if_pos (by omega)]); (rw [if_neg e2, if_neg (by omega)]))) (gcdL_s m3 (by omega) (cy3 z4 (by omega))) _ _ hP hS ls (lv_sub hl [2, 3, 1, 0] rfl)
                              · have c207 := mt (lg_cmp_ge _ _).mpr c207
                                refine lv_aload_n hx hb dX5_solve_210 rfl (lv_at hl 0 rfl) ?_
                                refine g_get hC hP hm.1 rfl inX5 17 (by decide) q3_23 hm.2.2.2.2.2.2.2.2.2.2.2.2.2.2.2.1.1 dX5_solve_211 ?_
                                refine lv_iload hx hb dX5_solve_214 (lv_at hl 3 rfl) ?_
                                refine g_lald hC hP hm.2.2.2.2.2.2.2.2.2.2.2.2.2.2.2.1.2 (vp_in_nI (by omega) (by decide)) dX5_solve_216 ?_
                                refine g_topl (y := candX (gsP1 st) u t z4) ((congrArg (J11 (h + 15)) (nI_clamp (by omega))).trans (by rw [m1, shG_15, m2 z4 (by omega), if_neg (by omega)])) ?_
                                refine lv_lneg hx hb dX5_solve_217 ?_
                                refine lv_goto (tgt := 228) hx hb dX5_solve_218 (by decide) ?_
                                refine g_last hC hP hS hTA hm.2.2.2.2.2.2.2.2.2.2.2.2.2.2.2.1.2 (vp_in_nI (by omega) (by decide)) dX5_solve_228 (fun H21 locs22 hP hS hz24 => ?_)
                                rw [show (nI z4).toNatClampNeg = z4 from nI_clamp (by omega)] at hP
                                obtain ⟨J23, hJ23, hP⟩ : ∃ X : gJ, X = au J11 (h + 15) z4 (-(candX (gsP1 st) u t z4)) ∧ gP G T I X Q O H21 := ⟨_, rfl, hP⟩
                                refine lv_lload hx hb dX5_solve_229 (lv_at hl 2 rfl) ?_
                                refine lv_aload_n hx hb dX5_solve_231 rfl (lv_at hl 0 rfl) ?_
                                refine g_get hC hP hm.1 rfl inX5 17 (by decide) q3_23 hm.2.2.2.2.2.2.2.2.2.2.2.2.2.2.2.1.1 dX5_solve_232 ?_
                                refine lv_iload hx hb dX5_solve_235 (lv_at hl 3 rfl) ?_
                                refine g_lald hC hP hm.2.2.2.2.2.2.2.2.2.2.2.2.2.2.2.1.2 (vp_in_nI (by omega) (by decide)) dX5_solve_237 ?_
                                refine g_topl (y := candY (gsP1 st) u t z4) ((congrArg (J23 (h + 15)) (nI_clamp (by omega))).trans (by rw [hJ23, au_row, gu_eq]; exact (by first | exact (cy2 (Int64.not_lt.mpr c207) z4).symm | exact (cy1 (Int64.not_le.mp c207) z4).symm))) ?_
                                refine g_cp (g_rS (As := [.long bb, .long (candY (gsP1 st) u t z4)]) hC (c_X5_common l (a := bb) (b2 := candY (gsP1 st) u t z4) (by rw [m3]; omega) (cy3 z4 (by omega)).1) ⟨q3_123, q3_121, q3_122, q1_6⟩ dd_X5_common ⟨Nat.le_of_ble_eq_true rfl, Nat.le_of_ble_eq_true rfl, rfl, rfl⟩ hl.1 rfl (Nat.le_of_ble_eq_true rfl) dX5_solve_238 ⟨Nat.le_of_ble_eq_true rfl, Nat.le_of_ble_eq_true rfl⟩) ?_
                                refine W.eq (g2 := F0 m 241 ls [.long (gcdL bb (candY (gsP1 st) u t z4))]) rfl ?_
                                refine lv_lstore (lv' := [(6, .long (gcdL bb (candY (gsP1 st) u t z4))), (0, .ref h), (3, .long al), (8, .int (nI z4))]) hx hb dX5_solve_241 hl (by decide) rfl (fun ls hl => ?_)
                                refine lv_iinc (v := nI (z4 + 1)) (lv' := [(8, .int (nI (z4 + 1))), (6, .long (gcdL bb (candY (gsP1 st) u t z4))), (0, .ref h), (3, .long al)]) hx hb dX5_solve_243 hl (k := 3) rfl (nI_inc _) (by decide) rfl (fun ls hl => ?_)
                                refine lv_goto (tgt := 192) hx hb dX5_solve_246 (by decide) ?_
                                exact ih192 (z4 + 1) (gcdL bb (candY (gsP1 st) u t z4)) (gu S4 z4 (candY (gsP1 st) u t z4)) J23 (by omega) (by omega) (by rw [hJ23, m1, shG_set]; exact congrArg (fun q => shG J h X (gu S4 z4 q)) (by first | exact (cy2 (Int64.not_lt.mpr c207) z4).symm | exact (cy1 (Int64.not_le.mp c207) z4).symm)) (fun j hj => by by_cases e : j = z4; (subst e; rw [gu_eq, if_pos (by omega)]); (rw [gu_ne _ _ e, m2 j hj]; by_cases e2 : j < z4; (rw [if_pos e2, if_pos (by omega)]); (rw [if_neg e2, if_neg (by omega)]))) (gcdL_s m3 (by omega) (cy3 z4 (by omega))) _ _ hP hS ls (lv_sub hl [2, 3, 1, 0] rfl)
                        exact L192 5 0 (0 : Int64) S2 J10 (by omega) (by omega) g1 (fun j hj => by rw [if_neg (Nat.not_lt_zero j), g2 j hj]; exact shF_all hu hj ez) i64_20.2.2 _ _ hP hS ls (lv_sub hl [2, 5, 1, 0] rfl)
                      · have c181 := gb_f c181
                        refine lv_iconst (v := nI 0) hx hb dX5_solve_184 (by decide) ?_
                        refine g_retcz hC hS (b := false) (by decide) ?_ dX5_solve_185
                        refine ⟨X, S2, by rw [← g1]; exact hP, Or.inl ⟨?_, rfl⟩⟩
                        rw [← cg1, ← show z3 = popc u from by omega, ← k1]
                        exact c181
                    · have c111 := mt (nI_leI (by omega) (by omega)).mpr c111
                      have nl3 := nth_lt u z3
                      refine lv_aload_n hx hb dX5_solve_114 rfl (lv_at hl 0 rfl) ?_
                      refine g_get hC hP hm.1 rfl inX5 17 (by decide) q3_23 hm.2.2.2.2.2.2.2.2.2.2.2.2.2.2.2.1.1 dX5_solve_115 ?_
                      refine lv_aload_n hx hb dX5_solve_118 rfl (lv_at hl 0 rfl) ?_
                      refine g_get hC hP hm.1 rfl inX5 15 (by decide) q3_21 hm.2.2.2.2.2.2.2.2.2.2.2.2.2.1.1 dX5_solve_119 ?_
                      refine lv_iload hx hb dX5_solve_122 (lv_at hl 5 rfl) ?_
                      refine g_iald hC hP hm.2.2.2.2.2.2.2.2.2.2.2.2.2.1.2 (vp_in_nI (by omega) (by decide)) dX5_solve_124 ?_
                      refine g_topi (y := nI (nth u z3)) ((congrArg (I (h + 13)) (nI_clamp (by omega))).trans (hch z3 (by omega))) ?_
                      refine g_lald hC hP hm.2.2.2.2.2.2.2.2.2.2.2.2.2.2.2.1.2 (vp_in_nI (nth_lt _ _) (by decide)) dX5_solve_125 ?_
                      refine g_topl (y := candX (gsP1 st) u t (nth u z3)) ((congrArg (J10 (h + 15)) (nI_clamp (by omega))).trans (by rw [g1, shG_15, g2 _ (nth_lt _ _)]; exact shF_at hu (by omega) ez)) ?_
                      refine lv_lstore (lv' := [(7, .long (candX (gsP1 st) u t (nth u z3))), (0, .ref h), (1, .int (nI 0)), (2, .int (nI kk)), (3, .long al), (5, .int (gb gd)), (6, .int (nI z3))]) hx hb dX5_solve_126 hl (by decide) rfl (fun ls hl => ?_)
                      refine lv_iload hx hb dX5_solve_128 (lv_at hl 5 rfl) ?_
                      refine lv_if_eq (tgt := 170) hx hb dX5_solve_130 (by decide) (fun c130 => ?_) (fun c130 => ?_)
                      · have c130 := gb_f c130
                        refine lv_iconst (v := nI 0) hx hb dX5_solve_170 (by decide) ?_
                        refine lv_istore (lv' := [(5, .int (nI 0)), (7, .long (candX (gsP1 st) u t (nth u z3))), (0, .ref h), (1, .int (nI 0)), (2, .int (nI kk)), (3, .long al), (6, .int (nI z3))]) hx hb dX5_solve_171 hl (by decide) rfl (fun ls hl => ?_)
                        refine lv_iinc (v := nI (z3 + 1)) (lv' := [(6, .int (nI (z3 + 1))), (5, .int (nI 0)), (7, .long (candX (gsP1 st) u t (nth u z3))), (0, .ref h), (1, .int (nI 0)), (2, .int (nI kk)), (3, .long al)]) hx hb dX5_solve_173 hl (k := 6) rfl (nI_inc _) (by decide) rfl (fun ls hl => ?_)
                        refine lv_goto (tgt := 108) hx hb dX5_solve_176 (by decide) ?_
                        exact ih108 (z3 + 1) false (by omega) (by omega) (by show _ = (gdF _ _ _ z3 && (!decide _ && (decide _ == decide _))); rw [← k1]; first | (rw [c130]; rfl) | (rw [c130, decide_eq_true c137]; rfl) | (rw [c130, decide_eq_false c137, decide_eq_false (Int64.not_lt.mpr c144), decide_eq_false (Int64.not_lt.mpr c155)]; rfl) | (rw [c130, decide_eq_false c137, decide_eq_false (Int64.not_lt.mpr c144), decide_eq_true (Int64.not_le.mp c155)]; rfl) | (rw [c130, decide_eq_false c137, decide_eq_true (Int64.not_le.mp c144), decide_eq_false (Int64.not_lt.mpr c155)]; rfl) | (rw [c130, decide_eq_false c137, decide_eq_true (Int64.not_le.mp c144), decide_eq_true (Int64.not_le.mp c155)]; rfl)) _ _ hP hS ls (lv_sub hl [3, 4, 5, 6, 1, 0] rfl)
                      · have c130 := gb_t c130
                        refine lv_lload hx hb dX5_solve_133 (lv_at hl 0 rfl) ?_
                        refine lv_lconst (v := 0) hx hb dX5_solve_135 (by decide) ?_
                        refine W.lcmp hx hb dX5_solve_136 ?_
                        refine lv_if_eq (tgt := 170) hx hb dX5_solve_137 (by decide) (fun c137 => ?_) (fun c137 => ?_)
                        · have c137 := (lg_cmp_eq _ _).mp c137
                          refine lv_iconst (v := nI 0) hx hb dX5_solve_170 (by decide) ?_
                          refine lv_istore (lv' := [(5, .int (nI 0)), (7, .long (candX (gsP1 st) u t (nth u z3))), (0, .ref h), (1, .int (nI 0)), (2, .int (nI kk)), (3, .long al), (6, .int (nI z3))]) hx hb dX5_solve_171 hl (by decide) rfl (fun ls hl => ?_)
                          refine lv_iinc (v := nI (z3 + 1)) (lv' := [(6, .int (nI (z3 + 1))), (5, .int (nI 0)), (7, .long (candX (gsP1 st) u t (nth u z3))), (0, .ref h), (1, .int (nI 0)), (2, .int (nI kk)), (3, .long al)]) hx hb dX5_solve_173 hl (k := 6) rfl (nI_inc _) (by decide) rfl (fun ls hl => ?_)
                          refine lv_goto (tgt := 108) hx hb dX5_solve_176 (by decide) ?_
                          exact ih108 (z3 + 1) false (by omega) (by omega) (by show _ = (gdF _ _ _ z3 && (!decide _ && (decide _ == decide _))); rw [← k1]; first | (rw [c130]; rfl) | (rw [c130, decide_eq_true c137]; rfl) | (rw [c130, decide_eq_false c137, decide_eq_false (Int64.not_lt.mpr c144), decide_eq_false (Int64.not_lt.mpr c155)]; rfl) | (rw [c130, decide_eq_false c137, decide_eq_false (Int64.not_lt.mpr c144), decide_eq_true (Int64.not_le.mp c155)]; rfl) | (rw [c130, decide_eq_false c137, decide_eq_true (Int64.not_le.mp c144), decide_eq_false (Int64.not_lt.mpr c155)]; rfl) | (rw [c130, decide_eq_false c137, decide_eq_true (Int64.not_le.mp c144), decide_eq_true (Int64.not_le.mp c155)]; rfl)) _ _ hP hS ls (lv_sub hl [3, 4, 5, 6, 1, 0] rfl)
                        · have c137 := mt (lg_cmp_eq _ _).mpr c137
                          refine lv_lload hx hb dX5_solve_140 (lv_at hl 0 rfl) ?_
                          refine lv_lconst (v := 0) hx hb dX5_solve_142 (by decide) ?_
                          refine W.lcmp hx hb dX5_solve_143 ?_
                          refine lv_if_le (tgt := 151) hx hb dX5_solve_144 (by decide) (fun c144 => ?_) (fun c144 => ?_)
                          · have c144 := (lg_cmp_le _ _).mp c144
                            refine lv_iconst (v := nI 0) hx hb dX5_solve_151 (by decide) ?_
                            refine lv_lload_n hx hb dX5_solve_152 rfl (lv_at hl 4 rfl) ?_
                            refine lv_lconst (v := 0) hx hb dX5_solve_153 (by decide) ?_
                            refine W.lcmp hx hb dX5_solve_154 ?_
                            refine lv_if_le (tgt := 162) hx hb dX5_solve_155 (by decide) (fun c155 => ?_) (fun c155 => ?_)
                            · have c155 := (lg_cmp_le _ _).mp c155
                              refine lv_iconst (v := nI 0) hx hb dX5_solve_162 (by decide) ?_
                              refine lv_icmp_ne (tgt := 170) hx hb dX5_solve_163 (by decide) (fun q => absurd (by decide) q) (fun _ => ?_)
                              refine lv_iconst (v := nI 1) hx hb dX5_solve_166 (by decide) ?_
                              refine lv_goto (tgt := 171) hx hb dX5_solve_167 (by decide) ?_
                              refine lv_istore (lv' := [(5, .int (nI 1)), (7, .long (candX (gsP1 st) u t (nth u z3))), (0, .ref h), (1, .int (nI 0)), (2, .int (nI kk)), (3, .long al), (6, .int (nI z3))]) hx hb dX5_solve_171 hl (by decide) rfl (fun ls hl => ?_)
                              refine lv_iinc (v := nI (z3 + 1)) (lv' := [(6, .int (nI (z3 + 1))), (5, .int (nI 1)), (7, .long (candX (gsP1 st) u t (nth u z3))), (0, .ref h), (1, .int (nI 0)), (2, .int (nI kk)), (3, .long al)]) hx hb dX5_solve_173 hl (k := 6) rfl (nI_inc _) (by decide) rfl (fun ls hl => ?_)
                              refine lv_goto (tgt := 108) hx hb dX5_solve_176 (by decide) ?_
                              exact ih108 (z3 + 1) true (by omega) (by omega) (by show _ = (gdF _ _ _ z3 && (!decide _ && (decide _ == decide _))); rw [← k1]; first | (rw [c130]; rfl) | (rw [c130, decide_eq_true c137]; rfl) | (rw [c130, decide_eq_false c137, decide_eq_false (Int64.not_lt.mpr c144), decide_eq_false (Int64.not_lt.mpr c155)]; rfl) | (rw [c130, decide_eq_false c137, decide_eq_false (Int64.not_lt.mpr c144), decide_eq_true (Int64.not_le.mp c155)]; rfl) | (rw [c130, decide_eq_false c137, decide_eq_true (Int64.not_le.mp c144), decide_eq_false (Int64.not_lt.mpr c155)]; rfl) | (rw [c130, decide_eq_false c137, decide_eq_true (Int64.not_le.mp c144), decide_eq_true (Int64.not_le.mp c155)]; rfl)) _ _ hP hS ls (lv_sub hl [3, 4, 5, 6, 1, 0] rfl)
                            · have c155 := mt (lg_cmp_le _ _).mpr c155
                              refine lv_iconst (v := nI 1) hx hb dX5_solve_158 (by decide) ?_
                              refine lv_goto (tgt := 163) hx hb dX5_solve_159 (by decide) ?_
                              refine lv_icmp_ne (tgt := 170) hx hb dX5_solve_163 (by decide) (fun _ => ?_) (fun q => absurd q (by decide))
                              refine lv_iconst (v := nI 0) hx hb dX5_solve_170 (by decide) ?_
                              refine lv_istore (lv' := [(5, .int (nI 0)), (7, .long (candX (gsP1 st) u t (nth u z3))), (0, .ref h), (1, .int (nI 0)), (2, .int (nI kk)), (3, .long al), (6, .int (nI z3))]) hx hb dX5_solve_171 hl (by decide) rfl (fun ls hl => ?_)
                              refine lv_iinc (v := nI (z3 + 1)) (lv' := [(6, .int (nI (z3 + 1))), (5, .int (nI 0)), (7, .long (candX (gsP1 st) u t (nth u z3))), (0, .ref h), (1, .int (nI 0)), (2, .int (nI kk)), (3, .long al)]) hx hb dX5_solve_173 hl (k := 6) rfl (nI_inc _) (by decide) rfl (fun ls hl => ?_)
                              refine lv_goto (tgt := 108) hx hb dX5_solve_176 (by decide) ?_
                              exact ih108 (z3 + 1) false (by omega) (by omega) (by show _ = (gdF _ _ _ z3 && (!decide _ && (decide _ == decide _))); rw [← k1]; first | (rw [c130]; rfl) | (rw [c130, decide_eq_true c137]; rfl) | (rw [c130, decide_eq_false c137, decide_eq_false (Int64.not_lt.mpr c144), decide_eq_false (Int64.not_lt.mpr c155)]; rfl) | (rw [c130, decide_eq_false c137, decide_eq_false (Int64.not_lt.mpr c144), decide_eq_true (Int64.not_le.mp c155)]; rfl) | (rw [c130, decide_eq_false c137, decide_eq_true (Int64.not_le.mp c144), decide_eq_false (Int64.not_lt.mpr c155)]; rfl) | (rw [c130, decide_eq_false c137, decide_eq_true (Int64.not_le.mp c144), decide_eq_true (Int64.not_le.mp c155)]; rfl)) _ _ hP hS ls (lv_sub hl [3, 4, 5, 6, 1, 0] rfl)
                          · have c144 := mt (lg_cmp_le _ _).mpr c144
                            refine lv_iconst (v := nI 1) hx hb dX5_solve_147 (by decide) ?_
                            refine lv_goto (tgt := 152) hx hb dX5_solve_148 (by decide) ?_
                            refine lv_lload_n hx hb dX5_solve_152 rfl (lv_at hl 4 rfl) ?_
                            refine lv_lconst (v := 0) hx hb dX5_solve_153 (by decide) ?_
                            refine W.lcmp hx hb dX5_solve_154 ?_
                            refine lv_if_le (tgt := 162) hx hb dX5_solve_155 (by decide) (fun c155 => ?_) (fun c155 => ?_)
                            · have c155 := (lg_cmp_le _ _).mp c155
                              refine lv_iconst (v := nI 0) hx hb dX5_solve_162 (by decide) ?_
                              refine lv_icmp_ne (tgt := 170) hx hb dX5_solve_163 (by decide) (fun _ => ?_) (fun q => absurd q (by decide))
                              refine lv_iconst (v := nI 0) hx hb dX5_solve_170 (by decide) ?_
                              refine lv_istore (lv' := [(5, .int (nI 0)), (7, .long (candX (gsP1 st) u t (nth u z3))), (0, .ref h), (1, .int (nI 0)), (2, .int (nI kk)), (3, .long al), (6, .int (nI z3))]) hx hb dX5_solve_171 hl (by decide) rfl (fun ls hl => ?_)
                              refine lv_iinc (v := nI (z3 + 1)) (lv' := [(6, .int (nI (z3 + 1))), (5, .int (nI 0)), (7, .long (candX (gsP1 st) u t (nth u z3))), (0, .ref h), (1, .int (nI 0)), (2, .int (nI kk)), (3, .long al)]) hx hb dX5_solve_173 hl (k := 6) rfl (nI_inc _) (by decide) rfl (fun ls hl => ?_)
                              refine lv_goto (tgt := 108) hx hb dX5_solve_176 (by decide) ?_
                              exact ih108 (z3 + 1) false (by omega) (by omega) (by show _ = (gdF _ _ _ z3 && (!decide _ && (decide _ == decide _))); rw [← k1]; first | (rw [c130]; rfl) | (rw [c130, decide_eq_true c137]; rfl) | (rw [c130, decide_eq_false c137, decide_eq_false (Int64.not_lt.mpr c144), decide_eq_false (Int64.not_lt.mpr c155)]; rfl) | (rw [c130, decide_eq_false c137, decide_eq_false (Int64.not_lt.mpr c144), decide_eq_true (Int64.not_le.mp c155)]; rfl) | (rw [c130, decide_eq_false c137, decide_eq_true (Int64.not_le.mp c144), decide_eq_false (Int64.not_lt.mpr c155)]; rfl) | (rw [c130, decide_eq_false c137, decide_eq_true (Int64.not_le.mp c144), decide_eq_true (Int64.not_le.mp c155)]; rfl)) _ _ hP hS ls (lv_sub hl [3, 4, 5, 6, 1, 0] rfl)
                            · have c155 := mt (lg_cmp_le _ _).mpr c155
                              refine lv_iconst (v := nI 1) hx hb dX5_solve_158 (by decide) ?_
                              refine lv_goto (tgt := 163) hx hb dX5_solve_159 (by decide) ?_
                              refine lv_icmp_ne (tgt := 170) hx hb dX5_solve_163 (by decide) (fun q => absurd (by decide) q) (fun _ => ?_)
                              refine lv_iconst (v := nI 1) hx hb dX5_solve_166 (by decide) ?_
                              refine lv_goto (tgt := 171) hx hb dX5_solve_167 (by decide) ?_
                              refine lv_istore (lv' := [(5, .int (nI 1)), (7, .long (candX (gsP1 st) u t (nth u z3))), (0, .ref h), (1, .int (nI 0)), (2, .int (nI kk)), (3, .long al), (6, .int (nI z3))]) hx hb dX5_solve_171 hl (by decide) rfl (fun ls hl => ?_)
                              refine lv_iinc (v := nI (z3 + 1)) (lv' := [(6, .int (nI (z3 + 1))), (5, .int (nI 1)), (7, .long (candX (gsP1 st) u t (nth u z3))), (0, .ref h), (1, .int (nI 0)), (2, .int (nI kk)), (3, .long al)]) hx hb dX5_solve_173 hl (k := 6) rfl (nI_inc _) (by decide) rfl (fun ls hl => ?_)
                              refine lv_goto (tgt := 108) hx hb dX5_solve_176 (by decide) ?_
                              exact ih108 (z3 + 1) true (by omega) (by omega) (by show _ = (gdF _ _ _ z3 && (!decide _ && (decide _ == decide _))); rw [← k1]; first | (rw [c130]; rfl) | (rw [c130, decide_eq_true c137]; rfl) | (rw [c130, decide_eq_false c137, decide_eq_false (Int64.not_lt.mpr c144), decide_eq_false (Int64.not_lt.mpr c155)]; rfl) | (rw [c130, decide_eq_false c137, decide_eq_false (Int64.not_lt.mpr c144), decide_eq_true (Int64.not_le.mp c155)]; rfl) | (rw [c130, decide_eq_false c137, decide_eq_true (Int64.not_le.mp c144), decide_eq_false (Int64.not_lt.mpr c155)]; rfl) | (rw [c130, decide_eq_false c137, decide_eq_true (Int64.not_le.mp c144), decide_eq_true (Int64.not_le.mp c155)]; rfl)) _ _ hP hS ls (lv_sub hl [3, 4, 5, 6, 1, 0] rfl)
                exact L108 5 0 true (by omega) (by omega) (by show _ = !decide _; first | (rw [decide_eq_true c95]; rfl) | (rw [decide_eq_false c95]; rfl)) _ _ hP hS ls (lv_sub hl [2, 3, 4, 5, 1, 0] rfl)
            · have c31 := mt (nI_leI (by omega) (by omega)).mpr c31
              refine lv_aload_n hx hb dX5_solve_34 rfl (lv_at hl 0 rfl) ?_
              refine lv_iload_n hx hb dX5_solve_35 rfl (lv_at hl 1 rfl) ?_
              refine lv_iload hx hb dX5_solve_36 (lv_at hl 4 rfl) ?_
              refine lv_iload_n hx hb dX5_solve_38 rfl (lv_at hl 2 rfl) ?_
              refine g_cc (g_rV (As := [.int (nI 0), .int (nI z2), .int (nI kk)]) hC hP (c_X5_without_0 l hP (h := h) (u := u) (t := t) (col := z2) (kk := kk) (by first | assumption | omega) (by first | assumption | omega) (by first | assumption | omega) (by first | assumption | omega) (by first | assumption | omega) (by first | assumption | omega) (by first | assumption | omega) (by first | assumption | omega) (by first | assumption | omega) (by first | assumption | omega)) hm.1 rfl ⟨q3_201, q3_198, q3_200, qs_40, q1_6⟩ dd_X5_without ⟨Nat.le_of_ble_eq_true rfl, Nat.le_of_ble_eq_true rfl, rfl, rfl⟩ hl.1 rfl (Nat.le_of_ble_eq_true rfl) dX5_solve_39 ⟨Nat.le_of_ble_eq_true rfl, Nat.le_of_ble_eq_true rfl⟩) hS (fun q h => h.elim (hTA q) (fun z => hA q (Nat.le_trans hS.1 z))) (fun r29 H25 locs26 hq30 hS hz27 hfr28 => ?_)
              obtain ⟨rfl, X31, hP⟩ := hq30
              obtain ⟨J32, hJ32, hP⟩ : ∃ X : gJ, X = gu J10 (h + 12) X31 ∧ gP G T I X Q O H25 := ⟨_, rfl, hP⟩
              refine W.eq (g2 := F0 m 42 ls [.long (detS (gapM (gsP1 st) u t) z2 (popc u - 1))]) rfl ?_
              have nl := nth_lt u z2
              refine lv_lstore (lv' := [(6, .long (detS (gapM (gsP1 st) u t) z2 (popc u - 1))), (0, .ref h), (1, .int (nI 0)), (2, .int (nI kk)), (3, .long al), (5, .int (nI z2))]) hx hb dX5_solve_42 hl (by decide) rfl (fun ls hl => ?_)
              refine lv_aload_n hx hb dX5_solve_44 rfl (lv_at hl 1 rfl) ?_
              refine g_get hC hP hm.1 rfl inX5 17 (by decide) q3_23 hm.2.2.2.2.2.2.2.2.2.2.2.2.2.2.2.1.1 dX5_solve_45 ?_
              refine lv_aload_n hx hb dX5_solve_48 rfl (lv_at hl 1 rfl) ?_
              refine g_get hC hP hm.1 rfl inX5 15 (by decide) q3_21 hm.2.2.2.2.2.2.2.2.2.2.2.2.2.1.1 dX5_solve_49 ?_
              refine lv_iload hx hb dX5_solve_52 (lv_at hl 5 rfl) ?_
              refine g_iald hC hP hm.2.2.2.2.2.2.2.2.2.2.2.2.2.1.2 (vp_in_nI (by omega) (by decide)) dX5_solve_54 ?_
              refine g_topi (y := nI (nth u z2)) ((congrArg (I (h + 13)) (nI_clamp (by omega))).trans (hch z2 (by omega))) ?_
              refine lv_iload hx hb dX5_solve_55 (lv_at hl 5 rfl) ?_
              refine lv_iconst (v := nI 2) hx hb dX5_solve_57 (by decide) ?_
              refine lv_irem hx hb dX5_solve_58 (by decide) ?_
              refine g_topi (y := nI (z2 % 2)) (g_rem2 (by omega)) ?_
              refine lv_if_ne (tgt := 67) hx hb dX5_solve_59 (by decide) (fun c59 => ?_) (fun c59 => ?_)
              · have c59 := mt (fun q => ((nI_eq (b := 0) (by omega) (by decide)).mpr q).trans nI_0) c59
                refine lv_lload hx hb dX5_solve_67 (lv_at hl 0 rfl) ?_
                refine lv_lneg hx hb dX5_solve_69 ?_
                refine g_last hC hP hS hTA hm.2.2.2.2.2.2.2.2.2.2.2.2.2.2.2.1.2 (vp_in_nI (nth_lt _ _) (by decide)) dX5_solve_70 (fun H33 locs34 hP hS hz36 => ?_)
                rw [show (nI (nth u z2)).toNatClampNeg = nth u z2 from nI_clamp (by omega)] at hP
                obtain ⟨J35, hJ35, hP⟩ : ∃ X : gJ, X = au J32 (h + 15) (nth u z2) (-(detS (gapM (gsP1 st) u t) z2 (popc u - 1))) ∧ gP G T I X Q O H33 := ⟨_, rfl, hP⟩
                refine lv_lload_n hx hb dX5_solve_71 rfl (lv_at hl 4 rfl) ?_
                refine lv_aload_n hx hb dX5_solve_72 rfl (lv_at hl 1 rfl) ?_
                refine g_get hC hP hm.1 rfl inX5 17 (by decide) q3_23 hm.2.2.2.2.2.2.2.2.2.2.2.2.2.2.2.1.1 dX5_solve_73 ?_
                refine lv_aload_n hx hb dX5_solve_76 rfl (lv_at hl 1 rfl) ?_
                refine g_get hC hP hm.1 rfl inX5 15 (by decide) q3_21 hm.2.2.2.2.2.2.2.2.2.2.2.2.2.1.1 dX5_solve_77 ?_
                refine lv_iload hx hb dX5_solve_80 (lv_at hl 5 rfl) ?_
                refine g_iald hC hP hm.2.2.2.2.2.2.2.2.2.2.2.2.2.1.2 (vp_in_nI (by omega) (by decide)) dX5_solve_82 ?_
                refine g_topi (y := nI (nth u z2)) ((congrArg (I (h + 13)) (nI_clamp (by omega))).trans (hch z2 (by omega))) ?_
                refine g_lald hC hP hm.2.2.2.2.2.2.2.2.2.2.2.2.2.2.2.1.2 (vp_in_nI (nth_lt _ _) (by decide)) dX5_solve_83 ?_
                refine g_topl (y := candX (gsP1 st) u t (nth u z2)) ((congrArg (J35 (h + 15)) (nI_clamp (by omega))).trans (by rw [hJ35, au_row, gu_eq, cX_nth hu (by omega)]; first | rw [if_pos c59] | rw [if_neg c59])) ?_
                refine lv_ladd hx hb dX5_solve_84 ?_
                refine lv_lstore_n (lv' := [(3, .long (al + (candX (gsP1 st) u t (nth u z2)))), (6, .long (detS (gapM (gsP1 st) u t) z2 (popc u - 1))), (0, .ref h), (1, .int (nI 0)), (2, .int (nI kk)), (5, .int (nI z2))]) hx hb dX5_solve_85 rfl hl (by decide) rfl (fun ls hl => ?_)
                have gn : J35 = shG J h X31 (gu S2 (nth u z2) (candX (gsP1 st) u t (nth u z2))) := by rw [hJ35, hJ32, g1, shG_12, shG_set]; exact congrArg (fun q => shG J h X31 (gu S2 (nth u z2) q)) (by rw [cX_nth hu (by omega)]; first | rw [if_pos c59] | rw [if_neg c59])
                refine lv_iinc (v := nI (z2 + 1)) (lv' := [(5, .int (nI (z2 + 1))), (3, .long (al + (candX (gsP1 st) u t (nth u z2)))), (6, .long (detS (gapM (gsP1 st) u t) z2 (popc u - 1))), (0, .ref h), (1, .int (nI 0)), (2, .int (nI kk))]) hx hb dX5_solve_86 hl (k := 5) rfl (nI_inc _) (by decide) rfl (fun ls hl => ?_)
                refine lv_goto (tgt := 28) hx hb dX5_solve_89 (by decide) ?_
                exact ih28 (z2 + 1) (al + (candX (gsP1 st) u t (nth u z2))) X31 (gu S2 (nth u z2) (candX (gsP1 st) u t (nth u z2))) J35 (by omega) (by omega) (by rw [hal]; rfl) gn (shF_s hu (by omega) g2) _ _ hP hS ls (lv_sub hl [3, 4, 5, 1, 0] rfl)
              · have c59 := (nI_eq (by omega) (by decide)).mp (c59.trans nI_0.symm)
                refine lv_lload hx hb dX5_solve_62 (lv_at hl 0 rfl) ?_
                refine lv_goto (tgt := 70) hx hb dX5_solve_64 (by decide) ?_
                refine g_last hC hP hS hTA hm.2.2.2.2.2.2.2.2.2.2.2.2.2.2.2.1.2 (vp_in_nI (nth_lt _ _) (by decide)) dX5_solve_70 (fun H37 locs38 hP hS hz40 => ?_)
                rw [show (nI (nth u z2)).toNatClampNeg = nth u z2 from nI_clamp (by omega)] at hP
                obtain ⟨J39, hJ39, hP⟩ : ∃ X : gJ, X = au J32 (h + 15) (nth u z2) (detS (gapM (gsP1 st) u t) z2 (popc u - 1)) ∧ gP G T I X Q O H37 := ⟨_, rfl, hP⟩
                refine lv_lload_n hx hb dX5_solve_71 rfl (lv_at hl 4 rfl) ?_
                refine lv_aload_n hx hb dX5_solve_72 rfl (lv_at hl 1 rfl) ?_
                refine g_get hC hP hm.1 rfl inX5 17 (by decide) q3_23 hm.2.2.2.2.2.2.2.2.2.2.2.2.2.2.2.1.1 dX5_solve_73 ?_
                refine lv_aload_n hx hb dX5_solve_76 rfl (lv_at hl 1 rfl) ?_
                refine g_get hC hP hm.1 rfl inX5 15 (by decide) q3_21 hm.2.2.2.2.2.2.2.2.2.2.2.2.2.1.1 dX5_solve_77 ?_
                refine lv_iload hx hb dX5_solve_80 (lv_at hl 5 rfl) ?_
                refine g_iald hC hP hm.2.2.2.2.2.2.2.2.2.2.2.2.2.1.2 (vp_in_nI (by omega) (by decide)) dX5_solve_82 ?_
                refine g_topi (y := nI (nth u z2)) ((congrArg (I (h + 13)) (nI_clamp (by omega))).trans (hch z2 (by omega))) ?_
                refine g_lald hC hP hm.2.2.2.2.2.2.2.2.2.2.2.2.2.2.2.1.2 (vp_in_nI (nth_lt _ _) (by decide)) dX5_solve_83 ?_
                refine g_topl (y := candX (gsP1 st) u t (nth u z2)) ((congrArg (J39 (h + 15)) (nI_clamp (by omega))).trans (by rw [hJ39, au_row, gu_eq, cX_nth hu (by omega)]; first | rw [if_pos c59] | rw [if_neg c59])) ?_
                refine lv_ladd hx hb dX5_solve_84 ?_
                refine lv_lstore_n (lv' := [(3, .long (al + (candX (gsP1 st) u t (nth u z2)))), (6, .long (detS (gapM (gsP1 st) u t) z2 (popc u - 1))), (0, .ref h), (1, .int (nI 0)), (2, .int (nI kk)), (5, .int (nI z2))]) hx hb dX5_solve_85 rfl hl (by decide) rfl (fun ls hl => ?_)
                have gn : J39 = shG J h X31 (gu S2 (nth u z2) (candX (gsP1 st) u t (nth u z2))) := by rw [hJ39, hJ32, g1, shG_12, shG_set]; exact congrArg (fun q => shG J h X31 (gu S2 (nth u z2) q)) (by rw [cX_nth hu (by omega)]; first | rw [if_pos c59] | rw [if_neg c59])
                refine lv_iinc (v := nI (z2 + 1)) (lv' := [(5, .int (nI (z2 + 1))), (3, .long (al + (candX (gsP1 st) u t (nth u z2)))), (6, .long (detS (gapM (gsP1 st) u t) z2 (popc u - 1))), (0, .ref h), (1, .int (nI 0)), (2, .int (nI kk))]) hx hb dX5_solve_86 hl (k := 5) rfl (nI_inc _) (by decide) rfl (fun ls hl => ?_)
                refine lv_goto (tgt := 28) hx hb dX5_solve_89 (by decide) ?_
                exact ih28 (z2 + 1) (al + (candX (gsP1 st) u t (nth u z2))) X31 (gu S2 (nth u z2) (candX (gsP1 st) u t (nth u z2))) J39 (by omega) (by omega) (by rw [hal]; rfl) gn (shF_s hu (by omega) g2) _ _ hP hS ls (lv_sub hl [3, 4, 5, 1, 0] rfl)
        exact L28 5 0 (0 : Int64) (J (h + 12)) S J9 (by omega) (by omega) rfl h1 (fun j hj => by rw [shF_0]; exact h2 j (by omega)) _ _ hP hS ls (lv_sub hl [1, 2, 3, 4, 0] rfl)
      · have c8 := mt (nI_leI (by omega) (by omega)).mpr c8
        refine lv_aload_n hx hb dX5_solve_11 rfl (lv_at hl 0 rfl) ?_
        refine g_get hC hP hm.1 rfl inX5 17 (by decide) q3_23 hm.2.2.2.2.2.2.2.2.2.2.2.2.2.2.2.1.1 dX5_solve_12 ?_
        refine lv_iload hx hb dX5_solve_15 (lv_at hl 4 rfl) ?_
        refine lv_lconst (v := 0) hx hb dX5_solve_17 (by decide) ?_
        refine g_last hC hP hS hTA hm.2.2.2.2.2.2.2.2.2.2.2.2.2.2.2.1.2 (vp_in_nI (by omega) (by decide)) dX5_solve_18 (fun H41 locs42 hP hS hz44 => ?_)
        rw [show (nI z).toNatClampNeg = z from nI_clamp (by omega)] at hP
        obtain ⟨J43, hJ43, hP⟩ : ∃ X : gJ, X = au J9 (h + 15) z (0 : Int64) ∧ gP G T I X Q O H41 := ⟨_, rfl, hP⟩
        refine lv_iinc (v := nI (z + 1)) (lv' := [(5, .int (nI (z + 1))), (0, .ref h), (1, .int (nI 0)), (2, .int (nI kk)), (3, .long (0 : Int64))]) hx hb dX5_solve_19 hl (k := 4) rfl (nI_inc _) (by decide) rfl (fun ls hl => ?_)
        refine lv_goto (tgt := 5) hx hb dX5_solve_22 (by decide) ?_
        exact ih5 (z + 1) (gu S z 0) J43 (by omega) (by omega) (by rw [hJ43, h1, shG_set]) (fun j hj => by by_cases e : j = z; (subst e; exact gu_eq _ _ _); (rw [gu_ne _ _ e]; exact h2 j (by omega))) _ _ hP hS ls (lv_sub hl [1, 2, 3, 4, 0] rfl)
  exact L5 5 0 (J (h + 15)) J (by omega) (by omega) (shG_self _ _) (fun j hj => absurd hj (Nat.not_lt_zero j)) _ _ hP hS ls (lv_sub hl [2, 3, 4, 1, 0] rfl)
set_option maxHeartbeats 4000000 in
set_option maxRecDepth 100000 in
theorem c_X5_solve_1 (l : Launch) {G : gG} {T : gTy} {I : gI} {J : gJ} {Q : gR} {O : gO} {H : Heap} (hP : gP G T I J Q O H) {h : Nat} {st : GS} {u t kk : Nat} (hm : isMo T O h) (hs0 : moS I h st) (hu : u < 16) (ht : t < 16) (hkk : kk = popc u) (hkt : kk = popc t) (hk1 : 1 ≤ kk ∧ kk ≤ 4) (hch : ∀ j, j < kk → I (h + 13) j = nI (nth u j)) (han : ∀ j, j < kk → I (h + 14) j = nI (nth t j)) (hu1 : 1 ≤ u) (hbp : bdP (gsP0 st)) : Met l yX5_solve (gw yX5_solve cX5_solve 9 (some (.boolean))) ({ frames := 2, cells := 0, slots := 0, locals := 49 } : Room) (gPc G H [.ref h, .int (nI 1), .int (nI kk)]) (gQc (gF T H) (fun r H1 => ∃ (X S : Nat → Int64), gP G T I (shG J h X S) Q O H1 ∧ ((posOK (candX (gsP0 st) u t) u = false ∧ r = some (.int (gb false))) ∨ (posOK (candX (gsP0 st) u t) u = true ∧ r = some (.int (gb true)) ∧ ∃ D : Int, 0 < D ∧ ∀ j, j < 4 → (candY (gsP0 st) u t j).toInt = D * (S j).toInt)))) 0 0 (gF T H) := by
  refine g_met [(0, .ref h), (1, .int (nI 1)), (2, .int (nI kk))] (by decide) rfl (by exact Nat.le_of_ble_eq_true rfl) ?_
  intro p e s m below meth c hC hs ls hl
  have hx := hC.1.1
  have hb := hC.1.2.1
  have hS : va_S (gF T H) s.heap H [] := hs ▸ va_S.rf
  have hTA : ∀ q, (T q).1 ≠ 0 → gF T H q := fun q h => Or.inl h
  have hA : ∀ q, s.heap.size ≤ q → gF T H q := fun q h => Or.inr (hs ▸ h)
  generalize hAe : gF T H = A at hS hTA hA ⊢
  have hms := hs0.1
  have hns := hs0.2.1
  refine lv_lconst (v := 0) hx hb dX5_solve_0 (by decide) ?_
  refine lv_lstore_n (lv' := [(3, .long (0 : Int64)), (0, .ref h), (1, .int (nI 1)), (2, .int (nI kk))]) hx hb dX5_solve_1 rfl hl (by decide) rfl (fun ls hl => ?_)
  refine lv_iconst (v := nI 0) hx hb dX5_solve_2 (by decide) ?_
  refine lv_istore (lv' := [(5, .int (nI 0)), (3, .long (0 : Int64)), (0, .ref h), (1, .int (nI 1)), (2, .int (nI kk))]) hx hb dX5_solve_3 hl (by decide) rfl (fun ls hl => ?_)
  have L5 : ∀ (n5 : Nat) (z : Nat) (S : Nat → Int64) (J9 : gJ), 5 ≤ n5 + z → (z ≤ 4) → (J9 = shG J h (J (h + 12)) S) → (∀ j, j < z → S j = 0) → ∀ (Hl : Heap) (lcl : List Loc), gP G T I J9 Q O Hl → va_S A s.heap Hl lcl → ∀ ls : Array Slot, lv_has ls 9 [(0, .ref h), (1, .int (nI 1)), (2, .int (nI kk)), (3, .long (0 : Int64)), (5, .int (nI z))] → W p l e ({ frames := 2, cells := 0, slots := 0, locals := 49 } : Room) s m [.ref h, .int (nI 1), .int (nI kk)].toArray below meth c Hl lcl 0 0 (MQ below (gQc A (fun r H1 => ∃ (X S : Nat → Int64), gP G T I (shG J h X S) Q O H1 ∧ ((posOK (candX (gsP0 st) u t) u = false ∧ r = some (.int (gb false))) ∨ (posOK (candX (gsP0 st) u t) u = true ∧ r = some (.int (gb true)) ∧ ∃ D : Int, 0 < D ∧ ∀ j, j < 4 → (candY (gsP0 st) u t j).toInt = D * (S j).toInt)))) [.ref h, .int (nI 1), .int (nI kk)].toArray s 0 0 A) (F0 m 5 ls []) := by
    intro n5
    induction n5 with
    | zero => intro z S J9 hn5 hz h1 h2; exact absurd hn5 (by omega)
    | succ n5 ih5 =>
      intro z S J9 hn5 hz h1 h2 Hl lcl hP hS ls hl
      refine lv_iload hx hb dX5_solve_5 (lv_at hl 4 rfl) ?_
      refine lv_iconst (v := nI 4) hx hb dX5_solve_7 (by decide) ?_
      refine lv_icmp_ge (tgt := 25) hx hb dX5_solve_8 (by decide) (fun c8 => ?_) (fun c8 => ?_)
      · have c8 := (nI_leI (by omega) (by omega)).mp c8
        refine lv_iconst (v := nI 0) hx hb dX5_solve_25 (by decide) ?_
        refine lv_istore (lv' := [(5, .int (nI 0)), (0, .ref h), (1, .int (nI 1)), (2, .int (nI kk)), (3, .long (0 : Int64))]) hx hb dX5_solve_26 hl (by decide) rfl (fun ls hl => ?_)
        have L28 : ∀ (n28 : Nat) (z2 : Nat) (al : Int64) (X : Nat → Int64) (S2 : Nat → Int64) (J10 : gJ), 5 ≤ n28 + z2 → (z2 ≤ kk) → (al = alF (candX (gsP0 st) u t) u z2) → (J10 = shG J h X S2) → (∀ j, j < 4 → S2 j = shF (candX (gsP0 st) u t) u z2 j) → ∀ (Hl : Heap) (lcl : List Loc), gP G T I J10 Q O Hl → va_S A s.heap Hl lcl → ∀ ls : Array Slot, lv_has ls 9 [(0, .ref h), (1, .int (nI 1)), (2, .int (nI kk)), (3, .long al), (5, .int (nI z2))] → W p l e ({ frames := 2, cells := 0, slots := 0, locals := 49 } : Room) s m [.ref h, .int (nI 1), .int (nI kk)].toArray below meth c Hl lcl 0 0 (MQ below (gQc A (fun r H1 => ∃ (X S : Nat → Int64), gP G T I (shG J h X S) Q O H1 ∧ ((posOK (candX (gsP0 st) u t) u = false ∧ r = some (.int (gb false))) ∨ (posOK (candX (gsP0 st) u t) u = true ∧ r = some (.int (gb true)) ∧ ∃ D : Int, 0 < D ∧ ∀ j, j < 4 → (candY (gsP0 st) u t j).toInt = D * (S j).toInt)))) [.ref h, .int (nI 1), .int (nI kk)].toArray s 0 0 A) (F0 m 28 ls []) := by
          intro n28
          induction n28 with
          | zero => intro z2 al X S2 J10 hn28 hz2 hal g1 g2; exact absurd hn28 (by omega)
          | succ n28 ih28 =>
            intro z2 al X S2 J10 hn28 hz2 hal g1 g2 Hl lcl hP hS ls hl
            refine lv_iload hx hb dX5_solve_28 (lv_at hl 4 rfl) ?_
            refine lv_iload_n hx hb dX5_solve_30 rfl (lv_at hl 2 rfl) ?_
            refine lv_icmp_ge (tgt := 92) hx hb dX5_solve_31 (by decide) (fun c31 => ?_) (fun c31 => ?_)
            · have c31 := (nI_leI (by omega) (by omega)).mp c31
              have ez : z2 = popc u := by omega
              rw [ez] at hal
              obtain ⟨cg1, cg2⟩ := cand_good (t := t) hu hu1 hbp
              rw [← hal] at cg1 cg2
              refine lv_lload_n hx hb dX5_solve_92 rfl (lv_at hl 3 rfl) ?_
              refine lv_lconst (v := 0) hx hb dX5_solve_93 (by decide) ?_
              refine W.lcmp hx hb dX5_solve_94 ?_
              refine lv_if_eq (tgt := 102) hx hb dX5_solve_95 (by decide) (fun c95 => ?_) (fun c95 => ?_)
              · have c95 := (lg_cmp_eq _ _).mp c95
                refine lv_iconst (v := nI 0) hx hb dX5_solve_102 (by decide) ?_
                refine lv_istore (lv' := [(5, .int (nI 0)), (0, .ref h), (1, .int (nI 1)), (2, .int (nI kk)), (3, .long al)]) hx hb dX5_solve_103 hl (by decide) rfl (fun ls hl => ?_)
                refine lv_iconst (v := nI 0) hx hb dX5_solve_105 (by decide) ?_
                refine lv_istore (lv' := [(6, .int (nI 0)), (5, .int (nI 0)), (0, .ref h), (1, .int (nI 1)), (2, .int (nI kk)), (3, .long al)]) hx hb dX5_solve_106 hl (by decide) rfl (fun ls hl => ?_)
                have L108 : ∀ (n108 : Nat) (z3 : Nat) (gd : Bool), 5 ≤ n108 + z3 → (z3 ≤ kk) → (gd = gdF (candX (gsP0 st) u t) u al z3) → ∀ (Hl : Heap) (lcl : List Loc), gP G T I J10 Q O Hl → va_S A s.heap Hl lcl → ∀ ls : Array Slot, lv_has ls 9 [(0, .ref h), (1, .int (nI 1)), (2, .int (nI kk)), (3, .long al), (5, .int (gb gd)), (6, .int (nI z3))] → W p l e ({ frames := 2, cells := 0, slots := 0, locals := 49 } : Room) s m [.ref h, .int (nI 1), .int (nI kk)].toArray below meth c Hl lcl 0 0 (MQ below (gQc A (fun r H1 => ∃ (X S : Nat → Int64), gP G T I (shG J h X S) Q O H1 ∧ ((posOK (candX (gsP0 st) u t) u = false ∧ r = some (.int (gb false))) ∨ (posOK (candX (gsP0 st) u t) u = true ∧ r = some (.int (gb true)) ∧ ∃ D : Int, 0 < D ∧ ∀ j, j < 4 → (candY (gsP0 st) u t j).toInt = D * (S j).toInt)))) [.ref h, .int (nI 1), .int (nI kk)].toArray s 0 0 A) (F0 m 108 ls []) := by
                  intro n108
                  induction n108 with
                  | zero => intro z3 gd hn108 hz3 k1; exact absurd hn108 (by omega)
                  | succ n108 ih108 =>
                    intro z3 gd hn108 hz3 k1 Hl lcl hP hS ls hl
                    refine lv_iload hx hb dX5_solve_108 (lv_at hl 5 rfl) ?_
                    refine lv_iload_n hx hb dX5_solve_110 rfl (lv_at hl 2 rfl) ?_
                    refine lv_icmp_ge (tgt := 179) hx hb dX5_solve_111 (by decide) (fun c111 => ?_) (fun c111 => ?_)
                    · have c111 := (nI_leI (by omega) (by omega)).mp c111
                      refine lv_iload hx hb dX5_solve_179 (lv_at hl 4 rfl) ?_
                      refine lv_if_ne (tgt := 186) hx hb dX5_solve_181 (by decide) (fun c181 => ?_) (fun c181 => ?_)
                      · have c181 := gb_t c181
                        have ez3 : z3 = popc u := by omega
                        have hpos : posOK (candX (gsP0 st) u t) u = true := by rw [← cg1, ← ez3, ← k1]; exact c181
                        obtain ⟨cy1, cy2, cy3, cy4, cy5⟩ := cg2 hpos
                        refine lv_lconst (v := 0) hx hb dX5_solve_186 (by decide) ?_
                        refine lv_lstore (lv' := [(6, .long (0 : Int64)), (0, .ref h), (1, .int (nI 1)), (2, .int (nI kk)), (3, .long al), (5, .int (gb gd))]) hx hb dX5_solve_187 hl (by decide) rfl (fun ls hl => ?_)
                        refine lv_iconst (v := nI 0) hx hb dX5_solve_189 (by decide) ?_
                        refine lv_istore (lv' := [(8, .int (nI 0)), (6, .long (0 : Int64)), (0, .ref h), (1, .int (nI 1)), (2, .int (nI kk)), (3, .long al), (5, .int (gb gd))]) hx hb dX5_solve_190 hl (by decide) rfl (fun ls hl => ?_)
                        have L192 : ∀ (n192 : Nat) (z4 : Nat) (bb : Int64) (S4 : Nat → Int64) (J11 : gJ), 5 ≤ n192 + z4 → (z4 ≤ 4) → (J11 = shG J h X S4) → (∀ j, j < 4 → S4 j = if j < z4 then candY (gsP0 st) u t j else candX (gsP0 st) u t j) → (bb.toInt = (gNF (candY (gsP0 st) u t) z4 : Nat)) → ∀ (Hl : Heap) (lcl : List Loc), gP G T I J11 Q O Hl → va_S A s.heap Hl lcl → ∀ ls : Array Slot, lv_has ls 9 [(0, .ref h), (3, .long al), (6, .long bb), (8, .int (nI z4))] → W p l e ({ frames := 2, cells := 0, slots := 0, locals := 49 } : Room) s m [.ref h, .int (nI 1), .int (nI kk)].toArray below meth c Hl lcl 0 0 (MQ below (gQc A (fun r H1 => ∃ (X S : Nat → Int64), gP G T I (shG J h X S) Q O H1 ∧ ((posOK (candX (gsP0 st) u t) u = false ∧ r = some (.int (gb false))) ∨ (posOK (candX (gsP0 st) u t) u = true ∧ r = some (.int (gb true)) ∧ ∃ D : Int, 0 < D ∧ ∀ j, j < 4 → (candY (gsP0 st) u t j).toInt = D * (S j).toInt)))) [.ref h, .int (nI 1), .int (nI kk)].toArray s 0 0 A) (F0 m 192 ls []) := by
                          intro n192
                          induction n192 with
                          | zero => intro z4 bb S4 J11 hn192 hz4 m1 m2 m3; exact absurd hn192 (by omega)
                          | succ n192 ih192 =>
                            intro z4 bb S4 J11 hn192 hz4 m1 m2 m3 Hl lcl hP hS ls hl
                            have gl := gN_le cy3 z4 hz4
                            refine lv_iload hx hb dX5_solve_192 (lv_at hl 3 rfl) ?_
                            refine lv_iconst (v := nI 4) hx hb dX5_solve_194 (by decide) ?_
                            refine lv_icmp_ge (tgt := 249) hx hb dX5_solve_195 (by decide) (fun c195 => ?_) (fun c195 => ?_)
                            · have c195 := (nI_leI (by omega) (by omega)).mp c195
                              have e4 : z4 = 4 := by omega
                              rw [e4] at m3
                              have gp : 0 < gNF (candY (gsP0 st) u t) 4 := gN_pos (nth_lt u 0) (cy4 _ (nth_lt u 0) (nth_ok hu (by omega)).1)
                              have bn : ¬ bb = 0 := fun e => by rw [e, i64_20.2.2] at m3; omega
                              refine lv_iconst (v := nI 0) hx hb dX5_solve_249 (by decide) ?_
                              refine lv_istore (lv' := [(8, .int (nI 0)), (0, .ref h), (3, .long al), (6, .long bb)]) hx hb dX5_solve_250 hl (by decide) rfl (fun ls hl => ?_)
                              have L252 : ∀ (n252 : Nat) (z5 : Nat) (S5 : Nat → Int64) (J12 : gJ), 5 ≤ n252 + z5 → (z5 ≤ 4) → (J12 = shG J h X S5) → (∀ j, j < 4 → S5 j = if j < z5 then candY (gsP0 st) u t j / bb else candY (gsP0 st) u t j) → ∀ (Hl : Heap) (lcl : List Loc), gP G T I J12 Q O Hl → va_S A s.heap Hl lcl → ∀ ls : Array Slot, lv_has ls 9 [(0, .ref h), (6, .long bb), (8, .int (nI z5))] → W p l e ({ frames := 2, cells := 0, slots := 0, locals := 49 } : Room) s m [.ref h, .int (nI 1), .int (nI kk)].toArray below meth c Hl lcl 0 0 (MQ below (gQc A (fun r H1 => ∃ (X S : Nat → Int64), gP G T I (shG J h X S) Q O H1 ∧ ((posOK (candX (gsP0 st) u t) u = false ∧ r = some (.int (gb false))) ∨ (posOK (candX (gsP0 st) u t) u = true ∧ r = some (.int (gb true)) ∧ ∃ D : Int, 0 < D ∧ ∀ j, j < 4 → (candY (gsP0 st) u t j).toInt = D * (S j).toInt)))) [.ref h, .int (nI 1), .int (nI kk)].toArray s 0 0 A) (F0 m 252 ls []) := by
                                intro n252
                                induction n252 with
                                | zero => intro z5 S5 J12 hn252 hz5 o1 o2; exact absurd hn252 (by omega)
                                | succ n252 ih252 =>
                                  intro z5 S5 J12 hn252 hz5 o1 o2 Hl lcl hP hS ls hl
                                  refine lv_iload hx hb dX5_solve_252 (lv_at hl 2 rfl) ?_
                                  refine lv_iconst (v := nI 4) hx hb dX5_solve_254 (by decide) ?_
                                  refine lv_icmp_ge (tgt := 276) hx hb dX5_solve_255 (by decide) (fun c255 => ?_) (fun c255 => ?_)
                                  · have c255 := (nI_leI (by omega) (by omega)).mp c255
                                    refine lv_iconst (v := nI 1) hx hb dX5_solve_276 (by decide) ?_
                                    refine g_retcz hC hS (b := true) (by decide) ?_ dX5_solve_277
                                    exact ⟨X, S5, by rw [← o1]; exact hP, Or.inr ⟨hpos, rfl, (gNF (candY (gsP0 st) u t) 4 : Nat), by omega, fun j hj => by rw [o2 j hj, if_pos (by omega)]; exact red_I (cy3 j hj).1 m3 gp (gN_dvd 4 j hj)⟩⟩
                                  · have c255 := mt (nI_leI (by omega) (by omega)).mpr c255
                                    refine lv_aload_n hx hb dX5_solve_258 rfl (lv_at hl 0 rfl) ?_
                                    refine g_get hC hP hm.1 rfl inX5 17 (by decide) q3_23 hm.2.2.2.2.2.2.2.2.2.2.2.2.2.2.2.1.1 dX5_solve_259 ?_
                                    refine lv_iload hx hb dX5_solve_262 (lv_at hl 2 rfl) ?_
                                    refine lv_dup2_11 hx hb dX5_solve_264 rfl rfl ?_
                                    refine g_lald hC hP hm.2.2.2.2.2.2.2.2.2.2.2.2.2.2.2.1.2 (vp_in_nI (by omega) (by decide)) dX5_solve_265 ?_
                                    refine g_topl (y := candY (gsP0 st) u t z5) ((congrArg (J12 (h + 15)) (nI_clamp (by omega))).trans (by rw [o1, shG_15, o2 z5 (by omega), if_neg (by omega)])) ?_
                                    refine lv_lload hx hb dX5_solve_266 (lv_at hl 1 rfl) ?_
                                    refine lv_ldiv hx hb dX5_solve_268 bn ?_
                                    refine g_last hC hP hS hTA hm.2.2.2.2.2.2.2.2.2.2.2.2.2.2.2.1.2 (vp_in_nI (by omega) (by decide)) dX5_solve_269 (fun H1 locs2 hP hS hz4 => ?_)
                                    rw [show (nI z5).toNatClampNeg = z5 from nI_clamp (by omega)] at hP
                                    obtain ⟨J3, hJ3, hP⟩ : ∃ X : gJ, X = au J12 (h + 15) z5 ((candY (gsP0 st) u t z5) / bb) ∧ gP G T I X Q O H1 := ⟨_, rfl, hP⟩
                                    refine lv_iinc (v := nI (z5 + 1)) (lv' := [(8, .int (nI (z5 + 1))), (0, .ref h), (6, .long bb)]) hx hb dX5_solve_270 hl (k := 2) rfl (nI_inc _) (by decide) rfl (fun ls hl => ?_)
                                    refine lv_goto (tgt := 252) hx hb dX5_solve_273 (by decide) ?_
                                    exact ih252 (z5 + 1) (gu S5 z5 (candY (gsP0 st) u t z5 / bb)) J3 (by omega) (by omega) (by rw [hJ3, o1, shG_set]) (fun j hj => by by_cases e : j = z5; (subst e; rw [gu_eq, if_pos (by omega)]); (rw [gu_ne _ _ e, o2 j hj]; by_cases e2 : j < z5; (rw [if_pos e2, if_pos (by omega)]); (rw [if_neg e2, if_neg (by omega)]))) _ _ hP hS ls (lv_sub hl [1, 2, 0] rfl)
                              exact L252 5 0 S4 J11 (by omega) (by omega) m1 (fun j hj => by rw [if_neg (Nat.not_lt_zero j), m2 j hj, if_pos (by omega)]) _ _ hP hS ls (lv_sub hl [1, 3, 0] rfl)
                            · have c195 := mt (nI_leI (by omega) (by omega)).mpr c195
                              refine lv_aload_n hx hb dX5_solve_198 rfl (lv_at hl 0 rfl) ?_
                              refine g_get hC hP hm.1 rfl inX5 17 (by decide) q3_23 hm.2.2.2.2.2.2.2.2.2.2.2.2.2.2.2.1.1 dX5_solve_199 ?_
                              refine lv_iload hx hb dX5_solve_202 (lv_at hl 3 rfl) ?_
                              refine lv_lload_n hx hb dX5_solve_204 rfl (lv_at hl 1 rfl) ?_
                              refine lv_lconst (v := 0) hx hb dX5_solve_205 (by decide) ?_
                              refine W.lcmp hx hb dX5_solve_206 ?_
                              refine lv_if_ge (tgt := 221) hx hb dX5_solve_207 (by decide) (fun c207 => ?_) (fun c207 => ?_)
                              · have c207 := (lg_cmp_ge _ _).mp c207
                                refine lv_aload_n hx hb dX5_solve_221 rfl (lv_at hl 0 rfl) ?_
                                refine g_get hC hP hm.1 rfl inX5 17 (by decide) q3_23 hm.2.2.2.2.2.2.2.2.2.2.2.2.2.2.2.1.1 dX5_solve_222 ?_
                                refine lv_iload hx hb dX5_solve_225 (lv_at hl 3 rfl) ?_
                                refine g_lald hC hP hm.2.2.2.2.2.2.2.2.2.2.2.2.2.2.2.1.2 (vp_in_nI (by omega) (by decide)) dX5_solve_227 ?_
                                refine g_topl (y := candX (gsP0 st) u t z4) ((congrArg (J11 (h + 15)) (nI_clamp (by omega))).trans (by rw [m1, shG_15, m2 z4 (by omega), if_neg (by omega)])) ?_
                                refine g_last hC hP hS hTA hm.2.2.2.2.2.2.2.2.2.2.2.2.2.2.2.1.2 (vp_in_nI (by omega) (by decide)) dX5_solve_228 (fun H5 locs6 hP hS hz8 => ?_)
                                rw [show (nI z4).toNatClampNeg = z4 from nI_clamp (by omega)] at hP
                                obtain ⟨J7, hJ7, hP⟩ : ∃ X : gJ, X = au J11 (h + 15) z4 (candX (gsP0 st) u t z4) ∧ gP G T I X Q O H5 := ⟨_, rfl, hP⟩
                                refine lv_lload hx hb dX5_solve_229 (lv_at hl 2 rfl) ?_
                                refine lv_aload_n hx hb dX5_solve_231 rfl (lv_at hl 0 rfl) ?_
                                refine g_get hC hP hm.1 rfl inX5 17 (by decide) q3_23 hm.2.2.2.2.2.2.2.2.2.2.2.2.2.2.2.1.1 dX5_solve_232 ?_
                                refine lv_iload hx hb dX5_solve_235 (lv_at hl 3 rfl) ?_
                                refine g_lald hC hP hm.2.2.2.2.2.2.2.2.2.2.2.2.2.2.2.1.2 (vp_in_nI (by omega) (by decide)) dX5_solve_237 ?_
                                refine g_topl (y := candY (gsP0 st) u t z4) ((congrArg (J7 (h + 15)) (nI_clamp (by omega))).trans (by rw [hJ7, au_row, gu_eq]; exact (by first | exact (cy2 (Int64.not_lt.mpr c207) z4).symm | exact (cy1 (Int64.not_le.mp c207) z4).symm))) ?_
                                refine g_cp (g_rS (As := [.long bb, .long (candY (gsP0 st) u t z4)]) hC (c_X5_common l (a := bb) (b2 := candY (gsP0 st) u t z4) (by rw [m3]; omega) (cy3 z4 (by omega)).1) ⟨q3_123, q3_121, q3_122, q1_6⟩ dd_X5_common ⟨Nat.le_of_ble_eq_true rfl, Nat.le_of_ble_eq_true rfl, rfl, rfl⟩ hl.1 rfl (Nat.le_of_ble_eq_true rfl) dX5_solve_238 ⟨Nat.le_of_ble_eq_true rfl, Nat.le_of_ble_eq_true rfl⟩) ?_
                                refine W.eq (g2 := F0 m 241 ls [.long (gcdL bb (candY (gsP0 st) u t z4))]) rfl ?_
                                refine lv_lstore (lv' := [(6, .long (gcdL bb (candY (gsP0 st) u t z4))), (0, .ref h), (3, .long al), (8, .int (nI z4))]) hx hb dX5_solve_241 hl (by decide) rfl (fun ls hl => ?_)
                                refine lv_iinc (v := nI (z4 + 1)) (lv' := [(8, .int (nI (z4 + 1))), (6, .long (gcdL bb (candY (gsP0 st) u t z4))), (0, .ref h), (3, .long al)]) hx hb dX5_solve_243 hl (k := 3) rfl (nI_inc _) (by decide) rfl (fun ls hl => ?_)
                                refine lv_goto (tgt := 192) hx hb dX5_solve_246 (by decide) ?_
                                exact ih192 (z4 + 1) (gcdL bb (candY (gsP0 st) u t z4)) (gu S4 z4 (candY (gsP0 st) u t z4)) J7 (by omega) (by omega) (by rw [hJ7, m1, shG_set]; exact congrArg (fun q => shG J h X (gu S4 z4 q)) (by first | exact (cy2 (Int64.not_lt.mpr c207) z4).symm | exact (cy1 (Int64.not_le.mp c207) z4).symm)) (fun j hj => by by_cases e : j = z4; (subst e; rw [gu_eq, if_pos (by omega)]); (rw [gu_ne _ _ e, m2 j hj]; by_cases e2 : j < z4; (rw [if_pos e2, if_pos (by omega)]); (rw [if_neg e2, if_neg (by omega)]))) (gcdL_s m3 (by omega) (cy3 z4 (by omega))) _ _ hP hS ls (lv_sub hl [2, 3, 1, 0] rfl)
                              · have c207 := mt (lg_cmp_ge _ _).mpr c207
                                refine lv_aload_n hx hb dX5_solve_210 rfl (lv_at hl 0 rfl) ?_
                                refine g_get hC hP hm.1 rfl inX5 17 (by decide) q3_23 hm.2.2.2.2.2.2.2.2.2.2.2.2.2.2.2.1.1 dX5_solve_211 ?_
                                refine lv_iload hx hb dX5_solve_214 (lv_at hl 3 rfl) ?_
                                refine g_lald hC hP hm.2.2.2.2.2.2.2.2.2.2.2.2.2.2.2.1.2 (vp_in_nI (by omega) (by decide)) dX5_solve_216 ?_
                                refine g_topl (y := candX (gsP0 st) u t z4) ((congrArg (J11 (h + 15)) (nI_clamp (by omega))).trans (by rw [m1, shG_15, m2 z4 (by omega), if_neg (by omega)])) ?_
                                refine lv_lneg hx hb dX5_solve_217 ?_
                                refine lv_goto (tgt := 228) hx hb dX5_solve_218 (by decide) ?_
                                refine g_last hC hP hS hTA hm.2.2.2.2.2.2.2.2.2.2.2.2.2.2.2.1.2 (vp_in_nI (by omega) (by decide)) dX5_solve_228 (fun H9 locs10 hP hS hz12 => ?_)
                                rw [show (nI z4).toNatClampNeg = z4 from nI_clamp (by omega)] at hP
                                obtain ⟨J11, hJ11, hP⟩ : ∃ X : gJ, X = au J11 (h + 15) z4 (-(candX (gsP0 st) u t z4)) ∧ gP G T I X Q O H9 := ⟨_, rfl, hP⟩
                                refine lv_lload hx hb dX5_solve_229 (lv_at hl 2 rfl) ?_
                                refine lv_aload_n hx hb dX5_solve_231 rfl (lv_at hl 0 rfl) ?_
                                refine g_get hC hP hm.1 rfl inX5 17 (by decide) q3_23 hm.2.2.2.2.2.2.2.2.2.2.2.2.2.2.2.1.1 dX5_solve_232 ?_
                                refine lv_iload hx hb dX5_solve_235 (lv_at hl 3 rfl) ?_
                                refine g_lald hC hP hm.2.2.2.2.2.2.2.2.2.2.2.2.2.2.2.1.2 (vp_in_nI (by omega) (by decide)) dX5_solve_237 ?_
                                refine g_topl (y := candY (gsP0 st) u t z4) ((congrArg (J11 (h + 15)) (nI_clamp (by omega))).trans (by rw [hJ11, au_row, gu_eq]; exact (by first | exact (cy2 (Int64.not_lt.mpr c207) z4).symm | exact (cy1 (Int64.not_le.mp c207) z4).symm))) ?_
                                refine g_cp (g_rS (As := [.long bb, .long (candY (gsP0 st) u t z4)]) hC (c_X5_common l (a := bb) (b2 := candY (gsP0 st) u t z4) (by rw [m3]; omega) (cy3 z4 (by omega)).1) ⟨q3_123, q3_121, q3_122, q1_6⟩ dd_X5_common ⟨Nat.le_of_ble_eq_true rfl, Nat.le_of_ble_eq_true rfl, rfl, rfl⟩ hl.1 rfl (Nat.le_of_ble_eq_true rfl) dX5_solve_238 ⟨Nat.le_of_ble_eq_true rfl, Nat.le_of_ble_eq_true rfl⟩) ?_
                                refine W.eq (g2 := F0 m 241 ls [.long (gcdL bb (candY (gsP0 st) u t z4))]) rfl ?_
                                refine lv_lstore (lv' := [(6, .long (gcdL bb (candY (gsP0 st) u t z4))), (0, .ref h), (3, .long al), (8, .int (nI z4))]) hx hb dX5_solve_241 hl (by decide) rfl (fun ls hl => ?_)
                                refine lv_iinc (v := nI (z4 + 1)) (lv' := [(8, .int (nI (z4 + 1))), (6, .long (gcdL bb (candY (gsP0 st) u t z4))), (0, .ref h), (3, .long al)]) hx hb dX5_solve_243 hl (k := 3) rfl (nI_inc _) (by decide) rfl (fun ls hl => ?_)
                                refine lv_goto (tgt := 192) hx hb dX5_solve_246 (by decide) ?_
                                exact ih192 (z4 + 1) (gcdL bb (candY (gsP0 st) u t z4)) (gu S4 z4 (candY (gsP0 st) u t z4)) J11 (by omega) (by omega) (by rw [hJ11, m1, shG_set]; exact congrArg (fun q => shG J h X (gu S4 z4 q)) (by first | exact (cy2 (Int64.not_lt.mpr c207) z4).symm | exact (cy1 (Int64.not_le.mp c207) z4).symm)) (fun j hj => by by_cases e : j = z4; (subst e; rw [gu_eq, if_pos (by omega)]); (rw [gu_ne _ _ e, m2 j hj]; by_cases e2 : j < z4; (rw [if_pos e2, if_pos (by omega)]); (rw [if_neg e2, if_neg (by omega)]))) (gcdL_s m3 (by omega) (cy3 z4 (by omega))) _ _ hP hS ls (lv_sub hl [2, 3, 1, 0] rfl)
                        exact L192 5 0 (0 : Int64) S2 J10 (by omega) (by omega) g1 (fun j hj => by rw [if_neg (Nat.not_lt_zero j), g2 j hj]; exact shF_all hu hj ez) i64_20.2.2 _ _ hP hS ls (lv_sub hl [2, 5, 1, 0] rfl)
                      · have c181 := gb_f c181
                        refine lv_iconst (v := nI 0) hx hb dX5_solve_184 (by decide) ?_
                        refine g_retcz hC hS (b := false) (by decide) ?_ dX5_solve_185
                        refine ⟨X, S2, by rw [← g1]; exact hP, Or.inl ⟨?_, rfl⟩⟩
                        rw [← cg1, ← show z3 = popc u from by omega, ← k1]
                        exact c181
                    · have c111 := mt (nI_leI (by omega) (by omega)).mpr c111
                      have nl3 := nth_lt u z3
                      refine lv_aload_n hx hb dX5_solve_114 rfl (lv_at hl 0 rfl) ?_
                      refine g_get hC hP hm.1 rfl inX5 17 (by decide) q3_23 hm.2.2.2.2.2.2.2.2.2.2.2.2.2.2.2.1.1 dX5_solve_115 ?_
                      refine lv_aload_n hx hb dX5_solve_118 rfl (lv_at hl 0 rfl) ?_
                      refine g_get hC hP hm.1 rfl inX5 15 (by decide) q3_21 hm.2.2.2.2.2.2.2.2.2.2.2.2.2.1.1 dX5_solve_119 ?_
                      refine lv_iload hx hb dX5_solve_122 (lv_at hl 5 rfl) ?_
                      refine g_iald hC hP hm.2.2.2.2.2.2.2.2.2.2.2.2.2.1.2 (vp_in_nI (by omega) (by decide)) dX5_solve_124 ?_
                      refine g_topi (y := nI (nth u z3)) ((congrArg (I (h + 13)) (nI_clamp (by omega))).trans (hch z3 (by omega))) ?_
                      refine g_lald hC hP hm.2.2.2.2.2.2.2.2.2.2.2.2.2.2.2.1.2 (vp_in_nI (nth_lt _ _) (by decide)) dX5_solve_125 ?_
                      refine g_topl (y := candX (gsP0 st) u t (nth u z3)) ((congrArg (J10 (h + 15)) (nI_clamp (by omega))).trans (by rw [g1, shG_15, g2 _ (nth_lt _ _)]; exact shF_at hu (by omega) ez)) ?_
                      refine lv_lstore (lv' := [(7, .long (candX (gsP0 st) u t (nth u z3))), (0, .ref h), (1, .int (nI 1)), (2, .int (nI kk)), (3, .long al), (5, .int (gb gd)), (6, .int (nI z3))]) hx hb dX5_solve_126 hl (by decide) rfl (fun ls hl => ?_)
                      refine lv_iload hx hb dX5_solve_128 (lv_at hl 5 rfl) ?_
                      refine lv_if_eq (tgt := 170) hx hb dX5_solve_130 (by decide) (fun c130 => ?_) (fun c130 => ?_)
                      · have c130 := gb_f c130
                        refine lv_iconst (v := nI 0) hx hb dX5_solve_170 (by decide) ?_
                        refine lv_istore (lv' := [(5, .int (nI 0)), (7, .long (candX (gsP0 st) u t (nth u z3))), (0, .ref h), (1, .int (nI 1)), (2, .int (nI kk)), (3, .long al), (6, .int (nI z3))]) hx hb dX5_solve_171 hl (by decide) rfl (fun ls hl => ?_)
                        refine lv_iinc (v := nI (z3 + 1)) (lv' := [(6, .int (nI (z3 + 1))), (5, .int (nI 0)), (7, .long (candX (gsP0 st) u t (nth u z3))), (0, .ref h), (1, .int (nI 1)), (2, .int (nI kk)), (3, .long al)]) hx hb dX5_solve_173 hl (k := 6) rfl (nI_inc _) (by decide) rfl (fun ls hl => ?_)
                        refine lv_goto (tgt := 108) hx hb dX5_solve_176 (by decide) ?_
                        exact ih108 (z3 + 1) false (by omega) (by omega) (by show _ = (gdF _ _ _ z3 && (!decide _ && (decide _ == decide _))); rw [← k1]; first | (rw [c130]; rfl) | (rw [c130, decide_eq_true c137]; rfl) | (rw [c130, decide_eq_false c137, decide_eq_false (Int64.not_lt.mpr c144), decide_eq_false (Int64.not_lt.mpr c155)]; rfl) | (rw [c130, decide_eq_false c137, decide_eq_false (Int64.not_lt.mpr c144), decide_eq_true (Int64.not_le.mp c155)]; rfl) | (rw [c130, decide_eq_false c137, decide_eq_true (Int64.not_le.mp c144), decide_eq_false (Int64.not_lt.mpr c155)]; rfl) | (rw [c130, decide_eq_false c137, decide_eq_true (Int64.not_le.mp c144), decide_eq_true (Int64.not_le.mp c155)]; rfl)) _ _ hP hS ls (lv_sub hl [3, 4, 5, 6, 1, 0] rfl)
                      · have c130 := gb_t c130
                        refine lv_lload hx hb dX5_solve_133 (lv_at hl 0 rfl) ?_
                        refine lv_lconst (v := 0) hx hb dX5_solve_135 (by decide) ?_
                        refine W.lcmp hx hb dX5_solve_136 ?_
                        refine lv_if_eq (tgt := 170) hx hb dX5_solve_137 (by decide) (fun c137 => ?_) (fun c137 => ?_)
                        · have c137 := (lg_cmp_eq _ _).mp c137
                          refine lv_iconst (v := nI 0) hx hb dX5_solve_170 (by decide) ?_
                          refine lv_istore (lv' := [(5, .int (nI 0)), (7, .long (candX (gsP0 st) u t (nth u z3))), (0, .ref h), (1, .int (nI 1)), (2, .int (nI kk)), (3, .long al), (6, .int (nI z3))]) hx hb dX5_solve_171 hl (by decide) rfl (fun ls hl => ?_)
                          refine lv_iinc (v := nI (z3 + 1)) (lv' := [(6, .int (nI (z3 + 1))), (5, .int (nI 0)), (7, .long (candX (gsP0 st) u t (nth u z3))), (0, .ref h), (1, .int (nI 1)), (2, .int (nI kk)), (3, .long al)]) hx hb dX5_solve_173 hl (k := 6) rfl (nI_inc _) (by decide) rfl (fun ls hl => ?_)
                          refine lv_goto (tgt := 108) hx hb dX5_solve_176 (by decide) ?_
                          exact ih108 (z3 + 1) false (by omega) (by omega) (by show _ = (gdF _ _ _ z3 && (!decide _ && (decide _ == decide _))); rw [← k1]; first | (rw [c130]; rfl) | (rw [c130, decide_eq_true c137]; rfl) | (rw [c130, decide_eq_false c137, decide_eq_false (Int64.not_lt.mpr c144), decide_eq_false (Int64.not_lt.mpr c155)]; rfl) | (rw [c130, decide_eq_false c137, decide_eq_false (Int64.not_lt.mpr c144), decide_eq_true (Int64.not_le.mp c155)]; rfl) | (rw [c130, decide_eq_false c137, decide_eq_true (Int64.not_le.mp c144), decide_eq_false (Int64.not_lt.mpr c155)]; rfl) | (rw [c130, decide_eq_false c137, decide_eq_true (Int64.not_le.mp c144), decide_eq_true (Int64.not_le.mp c155)]; rfl)) _ _ hP hS ls (lv_sub hl [3, 4, 5, 6, 1, 0] rfl)
                        · have c137 := mt (lg_cmp_eq _ _).mpr c137
                          refine lv_lload hx hb dX5_solve_140 (lv_at hl 0 rfl) ?_
                          refine lv_lconst (v := 0) hx hb dX5_solve_142 (by decide) ?_
                          refine W.lcmp hx hb dX5_solve_143 ?_
                          refine lv_if_le (tgt := 151) hx hb dX5_solve_144 (by decide) (fun c144 => ?_) (fun c144 => ?_)
                          · have c144 := (lg_cmp_le _ _).mp c144
                            refine lv_iconst (v := nI 0) hx hb dX5_solve_151 (by decide) ?_
                            refine lv_lload_n hx hb dX5_solve_152 rfl (lv_at hl 4 rfl) ?_
                            refine lv_lconst (v := 0) hx hb dX5_solve_153 (by decide) ?_
                            refine W.lcmp hx hb dX5_solve_154 ?_
                            refine lv_if_le (tgt := 162) hx hb dX5_solve_155 (by decide) (fun c155 => ?_) (fun c155 => ?_)
                            · have c155 := (lg_cmp_le _ _).mp c155
                              refine lv_iconst (v := nI 0) hx hb dX5_solve_162 (by decide) ?_
                              refine lv_icmp_ne (tgt := 170) hx hb dX5_solve_163 (by decide) (fun q => absurd (by decide) q) (fun _ => ?_)
                              refine lv_iconst (v := nI 1) hx hb dX5_solve_166 (by decide) ?_
                              refine lv_goto (tgt := 171) hx hb dX5_solve_167 (by decide) ?_
                              refine lv_istore (lv' := [(5, .int (nI 1)), (7, .long (candX (gsP0 st) u t (nth u z3))), (0, .ref h), (1, .int (nI 1)), (2, .int (nI kk)), (3, .long al), (6, .int (nI z3))]) hx hb dX5_solve_171 hl (by decide) rfl (fun ls hl => ?_)
                              refine lv_iinc (v := nI (z3 + 1)) (lv' := [(6, .int (nI (z3 + 1))), (5, .int (nI 1)), (7, .long (candX (gsP0 st) u t (nth u z3))), (0, .ref h), (1, .int (nI 1)), (2, .int (nI kk)), (3, .long al)]) hx hb dX5_solve_173 hl (k := 6) rfl (nI_inc _) (by decide) rfl (fun ls hl => ?_)
                              refine lv_goto (tgt := 108) hx hb dX5_solve_176 (by decide) ?_
                              exact ih108 (z3 + 1) true (by omega) (by omega) (by show _ = (gdF _ _ _ z3 && (!decide _ && (decide _ == decide _))); rw [← k1]; first | (rw [c130]; rfl) | (rw [c130, decide_eq_true c137]; rfl) | (rw [c130, decide_eq_false c137, decide_eq_false (Int64.not_lt.mpr c144), decide_eq_false (Int64.not_lt.mpr c155)]; rfl) | (rw [c130, decide_eq_false c137, decide_eq_false (Int64.not_lt.mpr c144), decide_eq_true (Int64.not_le.mp c155)]; rfl) | (rw [c130, decide_eq_false c137, decide_eq_true (Int64.not_le.mp c144), decide_eq_false (Int64.not_lt.mpr c155)]; rfl) | (rw [c130, decide_eq_false c137, decide_eq_true (Int64.not_le.mp c144), decide_eq_true (Int64.not_le.mp c155)]; rfl)) _ _ hP hS ls (lv_sub hl [3, 4, 5, 6, 1, 0] rfl)
                            · have c155 := mt (lg_cmp_le _ _).mpr c155
                              refine lv_iconst (v := nI 1) hx hb dX5_solve_158 (by decide) ?_
                              refine lv_goto (tgt := 163) hx hb dX5_solve_159 (by decide) ?_
                              refine lv_icmp_ne (tgt := 170) hx hb dX5_solve_163 (by decide) (fun _ => ?_) (fun q => absurd q (by decide))
                              refine lv_iconst (v := nI 0) hx hb dX5_solve_170 (by decide) ?_
                              refine lv_istore (lv' := [(5, .int (nI 0)), (7, .long (candX (gsP0 st) u t (nth u z3))), (0, .ref h), (1, .int (nI 1)), (2, .int (nI kk)), (3, .long al), (6, .int (nI z3))]) hx hb dX5_solve_171 hl (by decide) rfl (fun ls hl => ?_)
                              refine lv_iinc (v := nI (z3 + 1)) (lv' := [(6, .int (nI (z3 + 1))), (5, .int (nI 0)), (7, .long (candX (gsP0 st) u t (nth u z3))), (0, .ref h), (1, .int (nI 1)), (2, .int (nI kk)), (3, .long al)]) hx hb dX5_solve_173 hl (k := 6) rfl (nI_inc _) (by decide) rfl (fun ls hl => ?_)
                              refine lv_goto (tgt := 108) hx hb dX5_solve_176 (by decide) ?_
                              exact ih108 (z3 + 1) false (by omega) (by omega) (by show _ = (gdF _ _ _ z3 && (!decide _ && (decide _ == decide _))); rw [← k1]; first | (rw [c130]; rfl) | (rw [c130, decide_eq_true c137]; rfl) | (rw [c130, decide_eq_false c137, decide_eq_false (Int64.not_lt.mpr c144), decide_eq_false (Int64.not_lt.mpr c155)]; rfl) | (rw [c130, decide_eq_false c137, decide_eq_false (Int64.not_lt.mpr c144), decide_eq_true (Int64.not_le.mp c155)]; rfl) | (rw [c130, decide_eq_false c137, decide_eq_true (Int64.not_le.mp c144), decide_eq_false (Int64.not_lt.mpr c155)]; rfl) | (rw [c130, decide_eq_false c137, decide_eq_true (Int64.not_le.mp c144), decide_eq_true (Int64.not_le.mp c155)]; rfl)) _ _ hP hS ls (lv_sub hl [3, 4, 5, 6, 1, 0] rfl)
                          · have c144 := mt (lg_cmp_le _ _).mpr c144
                            refine lv_iconst (v := nI 1) hx hb dX5_solve_147 (by decide) ?_
                            refine lv_goto (tgt := 152) hx hb dX5_solve_148 (by decide) ?_
                            refine lv_lload_n hx hb dX5_solve_152 rfl (lv_at hl 4 rfl) ?_
                            refine lv_lconst (v := 0) hx hb dX5_solve_153 (by decide) ?_
                            refine W.lcmp hx hb dX5_solve_154 ?_
                            refine lv_if_le (tgt := 162) hx hb dX5_solve_155 (by decide) (fun c155 => ?_) (fun c155 => ?_)
                            · have c155 := (lg_cmp_le _ _).mp c155
                              refine lv_iconst (v := nI 0) hx hb dX5_solve_162 (by decide) ?_
                              refine lv_icmp_ne (tgt := 170) hx hb dX5_solve_163 (by decide) (fun _ => ?_) (fun q => absurd q (by decide))
                              refine lv_iconst (v := nI 0) hx hb dX5_solve_170 (by decide) ?_
                              refine lv_istore (lv' := [(5, .int (nI 0)), (7, .long (candX (gsP0 st) u t (nth u z3))), (0, .ref h), (1, .int (nI 1)), (2, .int (nI kk)), (3, .long al), (6, .int (nI z3))]) hx hb dX5_solve_171 hl (by decide) rfl (fun ls hl => ?_)
                              refine lv_iinc (v := nI (z3 + 1)) (lv' := [(6, .int (nI (z3 + 1))), (5, .int (nI 0)), (7, .long (candX (gsP0 st) u t (nth u z3))), (0, .ref h), (1, .int (nI 1)), (2, .int (nI kk)), (3, .long al)]) hx hb dX5_solve_173 hl (k := 6) rfl (nI_inc _) (by decide) rfl (fun ls hl => ?_)
                              refine lv_goto (tgt := 108) hx hb dX5_solve_176 (by decide) ?_
                              exact ih108 (z3 + 1) false (by omega) (by omega) (by show _ = (gdF _ _ _ z3 && (!decide _ && (decide _ == decide _))); rw [← k1]; first | (rw [c130]; rfl) | (rw [c130, decide_eq_true c137]; rfl) | (rw [c130, decide_eq_false c137, decide_eq_false (Int64.not_lt.mpr c144), decide_eq_false (Int64.not_lt.mpr c155)]; rfl) | (rw [c130, decide_eq_false c137, decide_eq_false (Int64.not_lt.mpr c144), decide_eq_true (Int64.not_le.mp c155)]; rfl) | (rw [c130, decide_eq_false c137, decide_eq_true (Int64.not_le.mp c144), decide_eq_false (Int64.not_lt.mpr c155)]; rfl) | (rw [c130, decide_eq_false c137, decide_eq_true (Int64.not_le.mp c144), decide_eq_true (Int64.not_le.mp c155)]; rfl)) _ _ hP hS ls (lv_sub hl [3, 4, 5, 6, 1, 0] rfl)
                            · have c155 := mt (lg_cmp_le _ _).mpr c155
                              refine lv_iconst (v := nI 1) hx hb dX5_solve_158 (by decide) ?_
                              refine lv_goto (tgt := 163) hx hb dX5_solve_159 (by decide) ?_
                              refine lv_icmp_ne (tgt := 170) hx hb dX5_solve_163 (by decide) (fun q => absurd (by decide) q) (fun _ => ?_)
                              refine lv_iconst (v := nI 1) hx hb dX5_solve_166 (by decide) ?_
                              refine lv_goto (tgt := 171) hx hb dX5_solve_167 (by decide) ?_
                              refine lv_istore (lv' := [(5, .int (nI 1)), (7, .long (candX (gsP0 st) u t (nth u z3))), (0, .ref h), (1, .int (nI 1)), (2, .int (nI kk)), (3, .long al), (6, .int (nI z3))]) hx hb dX5_solve_171 hl (by decide) rfl (fun ls hl => ?_)
                              refine lv_iinc (v := nI (z3 + 1)) (lv' := [(6, .int (nI (z3 + 1))), (5, .int (nI 1)), (7, .long (candX (gsP0 st) u t (nth u z3))), (0, .ref h), (1, .int (nI 1)), (2, .int (nI kk)), (3, .long al)]) hx hb dX5_solve_173 hl (k := 6) rfl (nI_inc _) (by decide) rfl (fun ls hl => ?_)
                              refine lv_goto (tgt := 108) hx hb dX5_solve_176 (by decide) ?_
                              exact ih108 (z3 + 1) true (by omega) (by omega) (by show _ = (gdF _ _ _ z3 && (!decide _ && (decide _ == decide _))); rw [← k1]; first | (rw [c130]; rfl) | (rw [c130, decide_eq_true c137]; rfl) | (rw [c130, decide_eq_false c137, decide_eq_false (Int64.not_lt.mpr c144), decide_eq_false (Int64.not_lt.mpr c155)]; rfl) | (rw [c130, decide_eq_false c137, decide_eq_false (Int64.not_lt.mpr c144), decide_eq_true (Int64.not_le.mp c155)]; rfl) | (rw [c130, decide_eq_false c137, decide_eq_true (Int64.not_le.mp c144), decide_eq_false (Int64.not_lt.mpr c155)]; rfl) | (rw [c130, decide_eq_false c137, decide_eq_true (Int64.not_le.mp c144), decide_eq_true (Int64.not_le.mp c155)]; rfl)) _ _ hP hS ls (lv_sub hl [3, 4, 5, 6, 1, 0] rfl)
                exact L108 5 0 false (by omega) (by omega) (by show _ = !decide _; first | (rw [decide_eq_true c95]; rfl) | (rw [decide_eq_false c95]; rfl)) _ _ hP hS ls (lv_sub hl [2, 3, 4, 5, 1, 0] rfl)
              · have c95 := mt (lg_cmp_eq _ _).mpr c95
                refine lv_iconst (v := nI 1) hx hb dX5_solve_98 (by decide) ?_
                refine lv_goto (tgt := 103) hx hb dX5_solve_99 (by decide) ?_
                refine lv_istore (lv' := [(5, .int (nI 1)), (0, .ref h), (1, .int (nI 1)), (2, .int (nI kk)), (3, .long al)]) hx hb dX5_solve_103 hl (by decide) rfl (fun ls hl => ?_)
                refine lv_iconst (v := nI 0) hx hb dX5_solve_105 (by decide) ?_
                refine lv_istore (lv' := [(6, .int (nI 0)), (5, .int (nI 1)), (0, .ref h), (1, .int (nI 1)), (2, .int (nI kk)), (3, .long al)]) hx hb dX5_solve_106 hl (by decide) rfl (fun ls hl => ?_)
                have L108 : ∀ (n108 : Nat) (z3 : Nat) (gd : Bool), 5 ≤ n108 + z3 → (z3 ≤ kk) → (gd = gdF (candX (gsP0 st) u t) u al z3) → ∀ (Hl : Heap) (lcl : List Loc), gP G T I J10 Q O Hl → va_S A s.heap Hl lcl → ∀ ls : Array Slot, lv_has ls 9 [(0, .ref h), (1, .int (nI 1)), (2, .int (nI kk)), (3, .long al), (5, .int (gb gd)), (6, .int (nI z3))] → W p l e ({ frames := 2, cells := 0, slots := 0, locals := 49 } : Room) s m [.ref h, .int (nI 1), .int (nI kk)].toArray below meth c Hl lcl 0 0 (MQ below (gQc A (fun r H1 => ∃ (X S : Nat → Int64), gP G T I (shG J h X S) Q O H1 ∧ ((posOK (candX (gsP0 st) u t) u = false ∧ r = some (.int (gb false))) ∨ (posOK (candX (gsP0 st) u t) u = true ∧ r = some (.int (gb true)) ∧ ∃ D : Int, 0 < D ∧ ∀ j, j < 4 → (candY (gsP0 st) u t j).toInt = D * (S j).toInt)))) [.ref h, .int (nI 1), .int (nI kk)].toArray s 0 0 A) (F0 m 108 ls []) := by
                  intro n108
                  induction n108 with
                  | zero => intro z3 gd hn108 hz3 k1; exact absurd hn108 (by omega)
                  | succ n108 ih108 =>
                    intro z3 gd hn108 hz3 k1 Hl lcl hP hS ls hl
                    refine lv_iload hx hb dX5_solve_108 (lv_at hl 5 rfl) ?_
                    refine lv_iload_n hx hb dX5_solve_110 rfl (lv_at hl 2 rfl) ?_
                    refine lv_icmp_ge (tgt := 179) hx hb dX5_solve_111 (by decide) (fun c111 => ?_) (fun c111 => ?_)
                    · have c111 := (nI_leI (by omega) (by omega)).mp c111
                      refine lv_iload hx hb dX5_solve_179 (lv_at hl 4 rfl) ?_
                      refine lv_if_ne (tgt := 186) hx hb dX5_solve_181 (by decide) (fun c181 => ?_) (fun c181 => ?_)
                      · have c181 := gb_t c181
                        have ez3 : z3 = popc u := by omega
                        have hpos : posOK (candX (gsP0 st) u t) u = true := by rw [← cg1, ← ez3, ← k1]; exact c181
                        obtain ⟨cy1, cy2, cy3, cy4, cy5⟩ := cg2 hpos
                        refine lv_lconst (v := 0) hx hb dX5_solve_186 (by decide) ?_
                        refine lv_lstore (lv' := [(6, .long (0 : Int64)), (0, .ref h), (1, .int (nI 1)), (2, .int (nI kk)), (3, .long al), (5, .int (gb gd))]) hx hb dX5_solve_187 hl (by decide) rfl (fun ls hl => ?_)
                        refine lv_iconst (v := nI 0) hx hb dX5_solve_189 (by decide) ?_
                        refine lv_istore (lv' := [(8, .int (nI 0)), (6, .long (0 : Int64)), (0, .ref h), (1, .int (nI 1)), (2, .int (nI kk)), (3, .long al), (5, .int (gb gd))]) hx hb dX5_solve_190 hl (by decide) rfl (fun ls hl => ?_)
                        have L192 : ∀ (n192 : Nat) (z4 : Nat) (bb : Int64) (S4 : Nat → Int64) (J11 : gJ), 5 ≤ n192 + z4 → (z4 ≤ 4) → (J11 = shG J h X S4) → (∀ j, j < 4 → S4 j = if j < z4 then candY (gsP0 st) u t j else candX (gsP0 st) u t j) → (bb.toInt = (gNF (candY (gsP0 st) u t) z4 : Nat)) → ∀ (Hl : Heap) (lcl : List Loc), gP G T I J11 Q O Hl → va_S A s.heap Hl lcl → ∀ ls : Array Slot, lv_has ls 9 [(0, .ref h), (3, .long al), (6, .long bb), (8, .int (nI z4))] → W p l e ({ frames := 2, cells := 0, slots := 0, locals := 49 } : Room) s m [.ref h, .int (nI 1), .int (nI kk)].toArray below meth c Hl lcl 0 0 (MQ below (gQc A (fun r H1 => ∃ (X S : Nat → Int64), gP G T I (shG J h X S) Q O H1 ∧ ((posOK (candX (gsP0 st) u t) u = false ∧ r = some (.int (gb false))) ∨ (posOK (candX (gsP0 st) u t) u = true ∧ r = some (.int (gb true)) ∧ ∃ D : Int, 0 < D ∧ ∀ j, j < 4 → (candY (gsP0 st) u t j).toInt = D * (S j).toInt)))) [.ref h, .int (nI 1), .int (nI kk)].toArray s 0 0 A) (F0 m 192 ls []) := by
                          intro n192
                          induction n192 with
                          | zero => intro z4 bb S4 J11 hn192 hz4 m1 m2 m3; exact absurd hn192 (by omega)
                          | succ n192 ih192 =>
                            intro z4 bb S4 J11 hn192 hz4 m1 m2 m3 Hl lcl hP hS ls hl
                            have gl := gN_le cy3 z4 hz4
                            refine lv_iload hx hb dX5_solve_192 (lv_at hl 3 rfl) ?_
                            refine lv_iconst (v := nI 4) hx hb dX5_solve_194 (by decide) ?_
                            refine lv_icmp_ge (tgt := 249) hx hb dX5_solve_195 (by decide) (fun c195 => ?_) (fun c195 => ?_)
                            · have c195 := (nI_leI (by omega) (by omega)).mp c195
                              have e4 : z4 = 4 := by omega
                              rw [e4] at m3
                              have gp : 0 < gNF (candY (gsP0 st) u t) 4 := gN_pos (nth_lt u 0) (cy4 _ (nth_lt u 0) (nth_ok hu (by omega)).1)
                              have bn : ¬ bb = 0 := fun e => by rw [e, i64_20.2.2] at m3; omega
                              refine lv_iconst (v := nI 0) hx hb dX5_solve_249 (by decide) ?_
                              refine lv_istore (lv' := [(8, .int (nI 0)), (0, .ref h), (3, .long al), (6, .long bb)]) hx hb dX5_solve_250 hl (by decide) rfl (fun ls hl => ?_)
                              have L252 : ∀ (n252 : Nat) (z5 : Nat) (S5 : Nat → Int64) (J12 : gJ), 5 ≤ n252 + z5 → (z5 ≤ 4) → (J12 = shG J h X S5) → (∀ j, j < 4 → S5 j = if j < z5 then candY (gsP0 st) u t j / bb else candY (gsP0 st) u t j) → ∀ (Hl : Heap) (lcl : List Loc), gP G T I J12 Q O Hl → va_S A s.heap Hl lcl → ∀ ls : Array Slot, lv_has ls 9 [(0, .ref h), (6, .long bb), (8, .int (nI z5))] → W p l e ({ frames := 2, cells := 0, slots := 0, locals := 49 } : Room) s m [.ref h, .int (nI 1), .int (nI kk)].toArray below meth c Hl lcl 0 0 (MQ below (gQc A (fun r H1 => ∃ (X S : Nat → Int64), gP G T I (shG J h X S) Q O H1 ∧ ((posOK (candX (gsP0 st) u t) u = false ∧ r = some (.int (gb false))) ∨ (posOK (candX (gsP0 st) u t) u = true ∧ r = some (.int (gb true)) ∧ ∃ D : Int, 0 < D ∧ ∀ j, j < 4 → (candY (gsP0 st) u t j).toInt = D * (S j).toInt)))) [.ref h, .int (nI 1), .int (nI kk)].toArray s 0 0 A) (F0 m 252 ls []) := by
                                intro n252
                                induction n252 with
                                | zero => intro z5 S5 J12 hn252 hz5 o1 o2; exact absurd hn252 (by omega)
                                | succ n252 ih252 =>
                                  intro z5 S5 J12 hn252 hz5 o1 o2 Hl lcl hP hS ls hl
                                  refine lv_iload hx hb dX5_solve_252 (lv_at hl 2 rfl) ?_
                                  refine lv_iconst (v := nI 4) hx hb dX5_solve_254 (by decide) ?_
                                  refine lv_icmp_ge (tgt := 276) hx hb dX5_solve_255 (by decide) (fun c255 => ?_) (fun c255 => ?_)
                                  · have c255 := (nI_leI (by omega) (by omega)).mp c255
                                    refine lv_iconst (v := nI 1) hx hb dX5_solve_276 (by decide) ?_
                                    refine g_retcz hC hS (b := true) (by decide) ?_ dX5_solve_277
                                    exact ⟨X, S5, by rw [← o1]; exact hP, Or.inr ⟨hpos, rfl, (gNF (candY (gsP0 st) u t) 4 : Nat), by omega, fun j hj => by rw [o2 j hj, if_pos (by omega)]; exact red_I (cy3 j hj).1 m3 gp (gN_dvd 4 j hj)⟩⟩
                                  · have c255 := mt (nI_leI (by omega) (by omega)).mpr c255
                                    refine lv_aload_n hx hb dX5_solve_258 rfl (lv_at hl 0 rfl) ?_
                                    refine g_get hC hP hm.1 rfl inX5 17 (by decide) q3_23 hm.2.2.2.2.2.2.2.2.2.2.2.2.2.2.2.1.1 dX5_solve_259 ?_
                                    refine lv_iload hx hb dX5_solve_262 (lv_at hl 2 rfl) ?_
                                    refine lv_dup2_11 hx hb dX5_solve_264 rfl rfl ?_
                                    refine g_lald hC hP hm.2.2.2.2.2.2.2.2.2.2.2.2.2.2.2.1.2 (vp_in_nI (by omega) (by decide)) dX5_solve_265 ?_
                                    refine g_topl (y := candY (gsP0 st) u t z5) ((congrArg (J12 (h + 15)) (nI_clamp (by omega))).trans (by rw [o1, shG_15, o2 z5 (by omega), if_neg (by omega)])) ?_
                                    refine lv_lload hx hb dX5_solve_266 (lv_at hl 1 rfl) ?_
                                    refine lv_ldiv hx hb dX5_solve_268 bn ?_
                                    refine g_last hC hP hS hTA hm.2.2.2.2.2.2.2.2.2.2.2.2.2.2.2.1.2 (vp_in_nI (by omega) (by decide)) dX5_solve_269 (fun H13 locs14 hP hS hz16 => ?_)
                                    rw [show (nI z5).toNatClampNeg = z5 from nI_clamp (by omega)] at hP
                                    obtain ⟨J15, hJ15, hP⟩ : ∃ X : gJ, X = au J12 (h + 15) z5 ((candY (gsP0 st) u t z5) / bb) ∧ gP G T I X Q O H13 := ⟨_, rfl, hP⟩
                                    refine lv_iinc (v := nI (z5 + 1)) (lv' := [(8, .int (nI (z5 + 1))), (0, .ref h), (6, .long bb)]) hx hb dX5_solve_270 hl (k := 2) rfl (nI_inc _) (by decide) rfl (fun ls hl => ?_)
                                    refine lv_goto (tgt := 252) hx hb dX5_solve_273 (by decide) ?_
                                    exact ih252 (z5 + 1) (gu S5 z5 (candY (gsP0 st) u t z5 / bb)) J15 (by omega) (by omega) (by rw [hJ15, o1, shG_set]) (fun j hj => by by_cases e : j = z5; (subst e; rw [gu_eq, if_pos (by omega)]); (rw [gu_ne _ _ e, o2 j hj]; by_cases e2 : j < z5; (rw [if_pos e2, if_pos (by omega)]); (rw [if_neg e2, if_neg (by omega)]))) _ _ hP hS ls (lv_sub hl [1, 2, 0] rfl)
                              exact L252 5 0 S4 J11 (by omega) (by omega) m1 (fun j hj => by rw [if_neg (Nat.not_lt_zero j), m2 j hj, if_pos (by omega)]) _ _ hP hS ls (lv_sub hl [1, 3, 0] rfl)
                            · have c195 := mt (nI_leI (by omega) (by omega)).mpr c195
                              refine lv_aload_n hx hb dX5_solve_198 rfl (lv_at hl 0 rfl) ?_
                              refine g_get hC hP hm.1 rfl inX5 17 (by decide) q3_23 hm.2.2.2.2.2.2.2.2.2.2.2.2.2.2.2.1.1 dX5_solve_199 ?_
                              refine lv_iload hx hb dX5_solve_202 (lv_at hl 3 rfl) ?_
                              refine lv_lload_n hx hb dX5_solve_204 rfl (lv_at hl 1 rfl) ?_
                              refine lv_lconst (v := 0) hx hb dX5_solve_205 (by decide) ?_
                              refine W.lcmp hx hb dX5_solve_206 ?_
                              refine lv_if_ge (tgt := 221) hx hb dX5_solve_207 (by decide) (fun c207 => ?_) (fun c207 => ?_)
                              · have c207 := (lg_cmp_ge _ _).mp c207
                                refine lv_aload_n hx hb dX5_solve_221 rfl (lv_at hl 0 rfl) ?_
                                refine g_get hC hP hm.1 rfl inX5 17 (by decide) q3_23 hm.2.2.2.2.2.2.2.2.2.2.2.2.2.2.2.1.1 dX5_solve_222 ?_
                                refine lv_iload hx hb dX5_solve_225 (lv_at hl 3 rfl) ?_
                                refine g_lald hC hP hm.2.2.2.2.2.2.2.2.2.2.2.2.2.2.2.1.2 (vp_in_nI (by omega) (by decide)) dX5_solve_227 ?_
                                refine g_topl (y := candX (gsP0 st) u t z4) ((congrArg (J11 (h + 15)) (nI_clamp (by omega))).trans (by rw [m1, shG_15, m2 z4 (by omega), if_neg (by omega)])) ?_
                                refine g_last hC hP hS hTA hm.2.2.2.2.2.2.2.2.2.2.2.2.2.2.2.1.2 (vp_in_nI (by omega) (by decide)) dX5_solve_228 (fun H17 locs18 hP hS hz20 => ?_)
                                rw [show (nI z4).toNatClampNeg = z4 from nI_clamp (by omega)] at hP
                                obtain ⟨J19, hJ19, hP⟩ : ∃ X : gJ, X = au J11 (h + 15) z4 (candX (gsP0 st) u t z4) ∧ gP G T I X Q O H17 := ⟨_, rfl, hP⟩
                                refine lv_lload hx hb dX5_solve_229 (lv_at hl 2 rfl) ?_
                                refine lv_aload_n hx hb dX5_solve_231 rfl (lv_at hl 0 rfl) ?_
                                refine g_get hC hP hm.1 rfl inX5 17 (by decide) q3_23 hm.2.2.2.2.2.2.2.2.2.2.2.2.2.2.2.1.1 dX5_solve_232 ?_
                                refine lv_iload hx hb dX5_solve_235 (lv_at hl 3 rfl) ?_
                                refine g_lald hC hP hm.2.2.2.2.2.2.2.2.2.2.2.2.2.2.2.1.2 (vp_in_nI (by omega) (by decide)) dX5_solve_237 ?_
                                refine g_topl (y := candY (gsP0 st) u t z4) ((congrArg (J19 (h + 15)) (nI_clamp (by omega))).trans (by rw [hJ19, au_row, gu_eq]; exact (by first | exact (cy2 (Int64.not_lt.mpr c207) z4).symm | exact (cy1 (Int64.not_le.mp c207) z4).symm))) ?_
                                refine g_cp (g_rS (As := [.long bb, .long (candY (gsP0 st) u t z4)]) hC (c_X5_common l (a := bb) (b2 := candY (gsP0 st) u t z4) (by rw [m3]; omega) (cy3 z4 (by omega)).1) ⟨q3_123, q3_121, q3_122, q1_6⟩ dd_X5_common ⟨Nat.le_of_ble_eq_true rfl, Nat.le_of_ble_eq_true rfl, rfl, rfl⟩ hl.1 rfl (Nat.le_of_ble_eq_true rfl) dX5_solve_238 ⟨Nat.le_of_ble_eq_true rfl, Nat.le_of_ble_eq_true rfl⟩) ?_
                                refine W.eq (g2 := F0 m 241 ls [.long (gcdL bb (candY (gsP0 st) u t z4))]) rfl ?_
                                refine lv_lstore (lv' := [(6, .long (gcdL bb (candY (gsP0 st) u t z4))), (0, .ref h), (3, .long al), (8, .int (nI z4))]) hx hb dX5_solve_241 hl (by decide) rfl (fun ls hl => ?_)
                                refine lv_iinc (v := nI (z4 + 1)) (lv' := [(8, .int (nI (z4 + 1))), (6, .long (gcdL bb (candY (gsP0 st) u t z4))), (0, .ref h), (3, .long al)]) hx hb dX5_solve_243 hl (k := 3) rfl (nI_inc _) (by decide) rfl (fun ls hl => ?_)
                                refine lv_goto (tgt := 192) hx hb dX5_solve_246 (by decide) ?_
                                exact ih192 (z4 + 1) (gcdL bb (candY (gsP0 st) u t z4)) (gu S4 z4 (candY (gsP0 st) u t z4)) J19 (by omega) (by omega) (by rw [hJ19, m1, shG_set]; exact congrArg (fun q => shG J h X (gu S4 z4 q)) (by first | exact (cy2 (Int64.not_lt.mpr c207) z4).symm | exact (cy1 (Int64.not_le.mp c207) z4).symm)) (fun j hj => by by_cases e : j = z4; (subst e; rw [gu_eq, if_pos (by omega)]); (rw [gu_ne _ _ e, m2 j hj]; by_cases e2 : j < z4; (rw [if_pos e2, if_pos (by omega)]); (rw [if_neg e2, if_neg (by omega)]))) (gcdL_s m3 (by omega) (cy3 z4 (by omega))) _ _ hP hS ls (lv_sub hl [2, 3, 1, 0] rfl)
                              · have c207 := mt (lg_cmp_ge _ _).mpr c207
                                refine lv_aload_n hx hb dX5_solve_210 rfl (lv_at hl 0 rfl) ?_
                                refine g_get hC hP hm.1 rfl inX5 17 (by decide) q3_23 hm.2.2.2.2.2.2.2.2.2.2.2.2.2.2.2.1.1 dX5_solve_211 ?_
                                refine lv_iload hx hb dX5_solve_214 (lv_at hl 3 rfl) ?_
                                refine g_lald hC hP hm.2.2.2.2.2.2.2.2.2.2.2.2.2.2.2.1.2 (vp_in_nI (by omega) (by decide)) dX5_solve_216 ?_
                                refine g_topl (y := candX (gsP0 st) u t z4) ((congrArg (J11 (h + 15)) (nI_clamp (by omega))).trans (by rw [m1, shG_15, m2 z4 (by omega), if_neg (by omega)])) ?_
                                refine lv_lneg hx hb dX5_solve_217 ?_
                                refine lv_goto (tgt := 228) hx hb dX5_solve_218 (by decide) ?_
                                refine g_last hC hP hS hTA hm.2.2.2.2.2.2.2.2.2.2.2.2.2.2.2.1.2 (vp_in_nI (by omega) (by decide)) dX5_solve_228 (fun H21 locs22 hP hS hz24 => ?_)
                                rw [show (nI z4).toNatClampNeg = z4 from nI_clamp (by omega)] at hP
                                obtain ⟨J23, hJ23, hP⟩ : ∃ X : gJ, X = au J11 (h + 15) z4 (-(candX (gsP0 st) u t z4)) ∧ gP G T I X Q O H21 := ⟨_, rfl, hP⟩
                                refine lv_lload hx hb dX5_solve_229 (lv_at hl 2 rfl) ?_
                                refine lv_aload_n hx hb dX5_solve_231 rfl (lv_at hl 0 rfl) ?_
                                refine g_get hC hP hm.1 rfl inX5 17 (by decide) q3_23 hm.2.2.2.2.2.2.2.2.2.2.2.2.2.2.2.1.1 dX5_solve_232 ?_
                                refine lv_iload hx hb dX5_solve_235 (lv_at hl 3 rfl) ?_
                                refine g_lald hC hP hm.2.2.2.2.2.2.2.2.2.2.2.2.2.2.2.1.2 (vp_in_nI (by omega) (by decide)) dX5_solve_237 ?_
                                refine g_topl (y := candY (gsP0 st) u t z4) ((congrArg (J23 (h + 15)) (nI_clamp (by omega))).trans (by rw [hJ23, au_row, gu_eq]; exact (by first | exact (cy2 (Int64.not_lt.mpr c207) z4).symm | exact (cy1 (Int64.not_le.mp c207) z4).symm))) ?_
                                refine g_cp (g_rS (As := [.long bb, .long (candY (gsP0 st) u t z4)]) hC (c_X5_common l (a := bb) (b2 := candY (gsP0 st) u t z4) (by rw [m3]; omega) (cy3 z4 (by omega)).1) ⟨q3_123, q3_121, q3_122, q1_6⟩ dd_X5_common ⟨Nat.le_of_ble_eq_true rfl, Nat.le_of_ble_eq_true rfl, rfl, rfl⟩ hl.1 rfl (Nat.le_of_ble_eq_true rfl) dX5_solve_238 ⟨Nat.le_of_ble_eq_true rfl, Nat.le_of_ble_eq_true rfl⟩) ?_
                                refine W.eq (g2 := F0 m 241 ls [.long (gcdL bb (candY (gsP0 st) u t z4))]) rfl ?_
                                refine lv_lstore (lv' := [(6, .long (gcdL bb (candY (gsP0 st) u t z4))), (0, .ref h), (3, .long al), (8, .int (nI z4))]) hx hb dX5_solve_241 hl (by decide) rfl (fun ls hl => ?_)
                                refine lv_iinc (v := nI (z4 + 1)) (lv' := [(8, .int (nI (z4 + 1))), (6, .long (gcdL bb (candY (gsP0 st) u t z4))), (0, .ref h), (3, .long al)]) hx hb dX5_solve_243 hl (k := 3) rfl (nI_inc _) (by decide) rfl (fun ls hl => ?_)
                                refine lv_goto (tgt := 192) hx hb dX5_solve_246 (by decide) ?_
                                exact ih192 (z4 + 1) (gcdL bb (candY (gsP0 st) u t z4)) (gu S4 z4 (candY (gsP0 st) u t z4)) J23 (by omega) (by omega) (by rw [hJ23, m1, shG_set]; exact congrArg (fun q => shG J h X (gu S4 z4 q)) (by first | exact (cy2 (Int64.not_lt.mpr c207) z4).symm | exact (cy1 (Int64.not_le.mp c207) z4).symm)) (fun j hj => by by_cases e : j = z4; (subst e; rw [gu_eq, if_pos (by omega)]); (rw [gu_ne _ _ e, m2 j hj]; by_cases e2 : j < z4; (rw [if_pos e2, if_pos (by omega)]); (rw [if_neg e2, if_neg (by omega)]))) (gcdL_s m3 (by omega) (cy3 z4 (by omega))) _ _ hP hS ls (lv_sub hl [2, 3, 1, 0] rfl)
                        exact L192 5 0 (0 : Int64) S2 J10 (by omega) (by omega) g1 (fun j hj => by rw [if_neg (Nat.not_lt_zero j), g2 j hj]; exact shF_all hu hj ez) i64_20.2.2 _ _ hP hS ls (lv_sub hl [2, 5, 1, 0] rfl)
                      · have c181 := gb_f c181
                        refine lv_iconst (v := nI 0) hx hb dX5_solve_184 (by decide) ?_
                        refine g_retcz hC hS (b := false) (by decide) ?_ dX5_solve_185
                        refine ⟨X, S2, by rw [← g1]; exact hP, Or.inl ⟨?_, rfl⟩⟩
                        rw [← cg1, ← show z3 = popc u from by omega, ← k1]
                        exact c181
                    · have c111 := mt (nI_leI (by omega) (by omega)).mpr c111
                      have nl3 := nth_lt u z3
                      refine lv_aload_n hx hb dX5_solve_114 rfl (lv_at hl 0 rfl) ?_
                      refine g_get hC hP hm.1 rfl inX5 17 (by decide) q3_23 hm.2.2.2.2.2.2.2.2.2.2.2.2.2.2.2.1.1 dX5_solve_115 ?_
                      refine lv_aload_n hx hb dX5_solve_118 rfl (lv_at hl 0 rfl) ?_
                      refine g_get hC hP hm.1 rfl inX5 15 (by decide) q3_21 hm.2.2.2.2.2.2.2.2.2.2.2.2.2.1.1 dX5_solve_119 ?_
                      refine lv_iload hx hb dX5_solve_122 (lv_at hl 5 rfl) ?_
                      refine g_iald hC hP hm.2.2.2.2.2.2.2.2.2.2.2.2.2.1.2 (vp_in_nI (by omega) (by decide)) dX5_solve_124 ?_
                      refine g_topi (y := nI (nth u z3)) ((congrArg (I (h + 13)) (nI_clamp (by omega))).trans (hch z3 (by omega))) ?_
                      refine g_lald hC hP hm.2.2.2.2.2.2.2.2.2.2.2.2.2.2.2.1.2 (vp_in_nI (nth_lt _ _) (by decide)) dX5_solve_125 ?_
                      refine g_topl (y := candX (gsP0 st) u t (nth u z3)) ((congrArg (J10 (h + 15)) (nI_clamp (by omega))).trans (by rw [g1, shG_15, g2 _ (nth_lt _ _)]; exact shF_at hu (by omega) ez)) ?_
                      refine lv_lstore (lv' := [(7, .long (candX (gsP0 st) u t (nth u z3))), (0, .ref h), (1, .int (nI 1)), (2, .int (nI kk)), (3, .long al), (5, .int (gb gd)), (6, .int (nI z3))]) hx hb dX5_solve_126 hl (by decide) rfl (fun ls hl => ?_)
                      refine lv_iload hx hb dX5_solve_128 (lv_at hl 5 rfl) ?_
                      refine lv_if_eq (tgt := 170) hx hb dX5_solve_130 (by decide) (fun c130 => ?_) (fun c130 => ?_)
                      · have c130 := gb_f c130
                        refine lv_iconst (v := nI 0) hx hb dX5_solve_170 (by decide) ?_
                        refine lv_istore (lv' := [(5, .int (nI 0)), (7, .long (candX (gsP0 st) u t (nth u z3))), (0, .ref h), (1, .int (nI 1)), (2, .int (nI kk)), (3, .long al), (6, .int (nI z3))]) hx hb dX5_solve_171 hl (by decide) rfl (fun ls hl => ?_)
                        refine lv_iinc (v := nI (z3 + 1)) (lv' := [(6, .int (nI (z3 + 1))), (5, .int (nI 0)), (7, .long (candX (gsP0 st) u t (nth u z3))), (0, .ref h), (1, .int (nI 1)), (2, .int (nI kk)), (3, .long al)]) hx hb dX5_solve_173 hl (k := 6) rfl (nI_inc _) (by decide) rfl (fun ls hl => ?_)
                        refine lv_goto (tgt := 108) hx hb dX5_solve_176 (by decide) ?_
                        exact ih108 (z3 + 1) false (by omega) (by omega) (by show _ = (gdF _ _ _ z3 && (!decide _ && (decide _ == decide _))); rw [← k1]; first | (rw [c130]; rfl) | (rw [c130, decide_eq_true c137]; rfl) | (rw [c130, decide_eq_false c137, decide_eq_false (Int64.not_lt.mpr c144), decide_eq_false (Int64.not_lt.mpr c155)]; rfl) | (rw [c130, decide_eq_false c137, decide_eq_false (Int64.not_lt.mpr c144), decide_eq_true (Int64.not_le.mp c155)]; rfl) | (rw [c130, decide_eq_false c137, decide_eq_true (Int64.not_le.mp c144), decide_eq_false (Int64.not_lt.mpr c155)]; rfl) | (rw [c130, decide_eq_false c137, decide_eq_true (Int64.not_le.mp c144), decide_eq_true (Int64.not_le.mp c155)]; rfl)) _ _ hP hS ls (lv_sub hl [3, 4, 5, 6, 1, 0] rfl)
                      · have c130 := gb_t c130
                        refine lv_lload hx hb dX5_solve_133 (lv_at hl 0 rfl) ?_
                        refine lv_lconst (v := 0) hx hb dX5_solve_135 (by decide) ?_
                        refine W.lcmp hx hb dX5_solve_136 ?_
                        refine lv_if_eq (tgt := 170) hx hb dX5_solve_137 (by decide) (fun c137 => ?_) (fun c137 => ?_)
                        · have c137 := (lg_cmp_eq _ _).mp c137
                          refine lv_iconst (v := nI 0) hx hb dX5_solve_170 (by decide) ?_
                          refine lv_istore (lv' := [(5, .int (nI 0)), (7, .long (candX (gsP0 st) u t (nth u z3))), (0, .ref h), (1, .int (nI 1)), (2, .int (nI kk)), (3, .long al), (6, .int (nI z3))]) hx hb dX5_solve_171 hl (by decide) rfl (fun ls hl => ?_)
                          refine lv_iinc (v := nI (z3 + 1)) (lv' := [(6, .int (nI (z3 + 1))), (5, .int (nI 0)), (7, .long (candX (gsP0 st) u t (nth u z3))), (0, .ref h), (1, .int (nI 1)), (2, .int (nI kk)), (3, .long al)]) hx hb dX5_solve_173 hl (k := 6) rfl (nI_inc _) (by decide) rfl (fun ls hl => ?_)
                          refine lv_goto (tgt := 108) hx hb dX5_solve_176 (by decide) ?_
                          exact ih108 (z3 + 1) false (by omega) (by omega) (by show _ = (gdF _ _ _ z3 && (!decide _ && (decide _ == decide _))); rw [← k1]; first | (rw [c130]; rfl) | (rw [c130, decide_eq_true c137]; rfl) | (rw [c130, decide_eq_false c137, decide_eq_false (Int64.not_lt.mpr c144), decide_eq_false (Int64.not_lt.mpr c155)]; rfl) | (rw [c130, decide_eq_false c137, decide_eq_false (Int64.not_lt.mpr c144), decide_eq_true (Int64.not_le.mp c155)]; rfl) | (rw [c130, decide_eq_false c137, decide_eq_true (Int64.not_le.mp c144), decide_eq_false (Int64.not_lt.mpr c155)]; rfl) | (rw [c130, decide_eq_false c137, decide_eq_true (Int64.not_le.mp c144), decide_eq_true (Int64.not_le.mp c155)]; rfl)) _ _ hP hS ls (lv_sub hl [3, 4, 5, 6, 1, 0] rfl)
                        · have c137 := mt (lg_cmp_eq _ _).mpr c137
                          refine lv_lload hx hb dX5_solve_140 (lv_at hl 0 rfl) ?_
                          refine lv_lconst (v := 0) hx hb dX5_solve_142 (by decide) ?_
                          refine W.lcmp hx hb dX5_solve_143 ?_
                          refine lv_if_le (tgt := 151) hx hb dX5_solve_144 (by decide) (fun c144 => ?_) (fun c144 => ?_)
                          · have c144 := (lg_cmp_le _ _).mp c144
                            refine lv_iconst (v := nI 0) hx hb dX5_solve_151 (by decide) ?_
                            refine lv_lload_n hx hb dX5_solve_152 rfl (lv_at hl 4 rfl) ?_
                            refine lv_lconst (v := 0) hx hb dX5_solve_153 (by decide) ?_
                            refine W.lcmp hx hb dX5_solve_154 ?_
                            refine lv_if_le (tgt := 162) hx hb dX5_solve_155 (by decide) (fun c155 => ?_) (fun c155 => ?_)
                            · have c155 := (lg_cmp_le _ _).mp c155
                              refine lv_iconst (v := nI 0) hx hb dX5_solve_162 (by decide) ?_
                              refine lv_icmp_ne (tgt := 170) hx hb dX5_solve_163 (by decide) (fun q => absurd (by decide) q) (fun _ => ?_)
                              refine lv_iconst (v := nI 1) hx hb dX5_solve_166 (by decide) ?_
                              refine lv_goto (tgt := 171) hx hb dX5_solve_167 (by decide) ?_
                              refine lv_istore (lv' := [(5, .int (nI 1)), (7, .long (candX (gsP0 st) u t (nth u z3))), (0, .ref h), (1, .int (nI 1)), (2, .int (nI kk)), (3, .long al), (6, .int (nI z3))]) hx hb dX5_solve_171 hl (by decide) rfl (fun ls hl => ?_)
                              refine lv_iinc (v := nI (z3 + 1)) (lv' := [(6, .int (nI (z3 + 1))), (5, .int (nI 1)), (7, .long (candX (gsP0 st) u t (nth u z3))), (0, .ref h), (1, .int (nI 1)), (2, .int (nI kk)), (3, .long al)]) hx hb dX5_solve_173 hl (k := 6) rfl (nI_inc _) (by decide) rfl (fun ls hl => ?_)
                              refine lv_goto (tgt := 108) hx hb dX5_solve_176 (by decide) ?_
                              exact ih108 (z3 + 1) true (by omega) (by omega) (by show _ = (gdF _ _ _ z3 && (!decide _ && (decide _ == decide _))); rw [← k1]; first | (rw [c130]; rfl) | (rw [c130, decide_eq_true c137]; rfl) | (rw [c130, decide_eq_false c137, decide_eq_false (Int64.not_lt.mpr c144), decide_eq_false (Int64.not_lt.mpr c155)]; rfl) | (rw [c130, decide_eq_false c137, decide_eq_false (Int64.not_lt.mpr c144), decide_eq_true (Int64.not_le.mp c155)]; rfl) | (rw [c130, decide_eq_false c137, decide_eq_true (Int64.not_le.mp c144), decide_eq_false (Int64.not_lt.mpr c155)]; rfl) | (rw [c130, decide_eq_false c137, decide_eq_true (Int64.not_le.mp c144), decide_eq_true (Int64.not_le.mp c155)]; rfl)) _ _ hP hS ls (lv_sub hl [3, 4, 5, 6, 1, 0] rfl)
                            · have c155 := mt (lg_cmp_le _ _).mpr c155
                              refine lv_iconst (v := nI 1) hx hb dX5_solve_158 (by decide) ?_
                              refine lv_goto (tgt := 163) hx hb dX5_solve_159 (by decide) ?_
                              refine lv_icmp_ne (tgt := 170) hx hb dX5_solve_163 (by decide) (fun _ => ?_) (fun q => absurd q (by decide))
                              refine lv_iconst (v := nI 0) hx hb dX5_solve_170 (by decide) ?_
                              refine lv_istore (lv' := [(5, .int (nI 0)), (7, .long (candX (gsP0 st) u t (nth u z3))), (0, .ref h), (1, .int (nI 1)), (2, .int (nI kk)), (3, .long al), (6, .int (nI z3))]) hx hb dX5_solve_171 hl (by decide) rfl (fun ls hl => ?_)
                              refine lv_iinc (v := nI (z3 + 1)) (lv' := [(6, .int (nI (z3 + 1))), (5, .int (nI 0)), (7, .long (candX (gsP0 st) u t (nth u z3))), (0, .ref h), (1, .int (nI 1)), (2, .int (nI kk)), (3, .long al)]) hx hb dX5_solve_173 hl (k := 6) rfl (nI_inc _) (by decide) rfl (fun ls hl => ?_)
                              refine lv_goto (tgt := 108) hx hb dX5_solve_176 (by decide) ?_
                              exact ih108 (z3 + 1) false (by omega) (by omega) (by show _ = (gdF _ _ _ z3 && (!decide _ && (decide _ == decide _))); rw [← k1]; first | (rw [c130]; rfl) | (rw [c130, decide_eq_true c137]; rfl) | (rw [c130, decide_eq_false c137, decide_eq_false (Int64.not_lt.mpr c144), decide_eq_false (Int64.not_lt.mpr c155)]; rfl) | (rw [c130, decide_eq_false c137, decide_eq_false (Int64.not_lt.mpr c144), decide_eq_true (Int64.not_le.mp c155)]; rfl) | (rw [c130, decide_eq_false c137, decide_eq_true (Int64.not_le.mp c144), decide_eq_false (Int64.not_lt.mpr c155)]; rfl) | (rw [c130, decide_eq_false c137, decide_eq_true (Int64.not_le.mp c144), decide_eq_true (Int64.not_le.mp c155)]; rfl)) _ _ hP hS ls (lv_sub hl [3, 4, 5, 6, 1, 0] rfl)
                          · have c144 := mt (lg_cmp_le _ _).mpr c144
                            refine lv_iconst (v := nI 1) hx hb dX5_solve_147 (by decide) ?_
                            refine lv_goto (tgt := 152) hx hb dX5_solve_148 (by decide) ?_
                            refine lv_lload_n hx hb dX5_solve_152 rfl (lv_at hl 4 rfl) ?_
                            refine lv_lconst (v := 0) hx hb dX5_solve_153 (by decide) ?_
                            refine W.lcmp hx hb dX5_solve_154 ?_
                            refine lv_if_le (tgt := 162) hx hb dX5_solve_155 (by decide) (fun c155 => ?_) (fun c155 => ?_)
                            · have c155 := (lg_cmp_le _ _).mp c155
                              refine lv_iconst (v := nI 0) hx hb dX5_solve_162 (by decide) ?_
                              refine lv_icmp_ne (tgt := 170) hx hb dX5_solve_163 (by decide) (fun _ => ?_) (fun q => absurd q (by decide))
                              refine lv_iconst (v := nI 0) hx hb dX5_solve_170 (by decide) ?_
                              refine lv_istore (lv' := [(5, .int (nI 0)), (7, .long (candX (gsP0 st) u t (nth u z3))), (0, .ref h), (1, .int (nI 1)), (2, .int (nI kk)), (3, .long al), (6, .int (nI z3))]) hx hb dX5_solve_171 hl (by decide) rfl (fun ls hl => ?_)
                              refine lv_iinc (v := nI (z3 + 1)) (lv' := [(6, .int (nI (z3 + 1))), (5, .int (nI 0)), (7, .long (candX (gsP0 st) u t (nth u z3))), (0, .ref h), (1, .int (nI 1)), (2, .int (nI kk)), (3, .long al)]) hx hb dX5_solve_173 hl (k := 6) rfl (nI_inc _) (by decide) rfl (fun ls hl => ?_)
                              refine lv_goto (tgt := 108) hx hb dX5_solve_176 (by decide) ?_
                              exact ih108 (z3 + 1) false (by omega) (by omega) (by show _ = (gdF _ _ _ z3 && (!decide _ && (decide _ == decide _))); rw [← k1]; first | (rw [c130]; rfl) | (rw [c130, decide_eq_true c137]; rfl) | (rw [c130, decide_eq_false c137, decide_eq_false (Int64.not_lt.mpr c144), decide_eq_false (Int64.not_lt.mpr c155)]; rfl) | (rw [c130, decide_eq_false c137, decide_eq_false (Int64.not_lt.mpr c144), decide_eq_true (Int64.not_le.mp c155)]; rfl) | (rw [c130, decide_eq_false c137, decide_eq_true (Int64.not_le.mp c144), decide_eq_false (Int64.not_lt.mpr c155)]; rfl) | (rw [c130, decide_eq_false c137, decide_eq_true (Int64.not_le.mp c144), decide_eq_true (Int64.not_le.mp c155)]; rfl)) _ _ hP hS ls (lv_sub hl [3, 4, 5, 6, 1, 0] rfl)
                            · have c155 := mt (lg_cmp_le _ _).mpr c155
                              refine lv_iconst (v := nI 1) hx hb dX5_solve_158 (by decide) ?_
                              refine lv_goto (tgt := 163) hx hb dX5_solve_159 (by decide) ?_
                              refine lv_icmp_ne (tgt := 170) hx hb dX5_solve_163 (by decide) (fun q => absurd (by decide) q) (fun _ => ?_)
                              refine lv_iconst (v := nI 1) hx hb dX5_solve_166 (by decide) ?_
                              refine lv_goto (tgt := 171) hx hb dX5_solve_167 (by decide) ?_
                              refine lv_istore (lv' := [(5, .int (nI 1)), (7, .long (candX (gsP0 st) u t (nth u z3))), (0, .ref h), (1, .int (nI 1)), (2, .int (nI kk)), (3, .long al), (6, .int (nI z3))]) hx hb dX5_solve_171 hl (by decide) rfl (fun ls hl => ?_)
                              refine lv_iinc (v := nI (z3 + 1)) (lv' := [(6, .int (nI (z3 + 1))), (5, .int (nI 1)), (7, .long (candX (gsP0 st) u t (nth u z3))), (0, .ref h), (1, .int (nI 1)), (2, .int (nI kk)), (3, .long al)]) hx hb dX5_solve_173 hl (k := 6) rfl (nI_inc _) (by decide) rfl (fun ls hl => ?_)
                              refine lv_goto (tgt := 108) hx hb dX5_solve_176 (by decide) ?_
                              exact ih108 (z3 + 1) true (by omega) (by omega) (by show _ = (gdF _ _ _ z3 && (!decide _ && (decide _ == decide _))); rw [← k1]; first | (rw [c130]; rfl) | (rw [c130, decide_eq_true c137]; rfl) | (rw [c130, decide_eq_false c137, decide_eq_false (Int64.not_lt.mpr c144), decide_eq_false (Int64.not_lt.mpr c155)]; rfl) | (rw [c130, decide_eq_false c137, decide_eq_false (Int64.not_lt.mpr c144), decide_eq_true (Int64.not_le.mp c155)]; rfl) | (rw [c130, decide_eq_false c137, decide_eq_true (Int64.not_le.mp c144), decide_eq_false (Int64.not_lt.mpr c155)]; rfl) | (rw [c130, decide_eq_false c137, decide_eq_true (Int64.not_le.mp c144), decide_eq_true (Int64.not_le.mp c155)]; rfl)) _ _ hP hS ls (lv_sub hl [3, 4, 5, 6, 1, 0] rfl)
                exact L108 5 0 true (by omega) (by omega) (by show _ = !decide _; first | (rw [decide_eq_true c95]; rfl) | (rw [decide_eq_false c95]; rfl)) _ _ hP hS ls (lv_sub hl [2, 3, 4, 5, 1, 0] rfl)
            · have c31 := mt (nI_leI (by omega) (by omega)).mpr c31
              refine lv_aload_n hx hb dX5_solve_34 rfl (lv_at hl 0 rfl) ?_
              refine lv_iload_n hx hb dX5_solve_35 rfl (lv_at hl 1 rfl) ?_
              refine lv_iload hx hb dX5_solve_36 (lv_at hl 4 rfl) ?_
              refine lv_iload_n hx hb dX5_solve_38 rfl (lv_at hl 2 rfl) ?_
              refine g_cc (g_rV (As := [.int (nI 1), .int (nI z2), .int (nI kk)]) hC hP (c_X5_without_1 l hP (h := h) (u := u) (t := t) (col := z2) (kk := kk) (by first | assumption | omega) (by first | assumption | omega) (by first | assumption | omega) (by first | assumption | omega) (by first | assumption | omega) (by first | assumption | omega) (by first | assumption | omega) (by first | assumption | omega) (by first | assumption | omega) (by first | assumption | omega)) hm.1 rfl ⟨q3_201, q3_198, q3_200, qs_40, q1_6⟩ dd_X5_without ⟨Nat.le_of_ble_eq_true rfl, Nat.le_of_ble_eq_true rfl, rfl, rfl⟩ hl.1 rfl (Nat.le_of_ble_eq_true rfl) dX5_solve_39 ⟨Nat.le_of_ble_eq_true rfl, Nat.le_of_ble_eq_true rfl⟩) hS (fun q h => h.elim (hTA q) (fun z => hA q (Nat.le_trans hS.1 z))) (fun r29 H25 locs26 hq30 hS hz27 hfr28 => ?_)
              obtain ⟨rfl, X31, hP⟩ := hq30
              obtain ⟨J32, hJ32, hP⟩ : ∃ X : gJ, X = gu J10 (h + 12) X31 ∧ gP G T I X Q O H25 := ⟨_, rfl, hP⟩
              refine W.eq (g2 := F0 m 42 ls [.long (detS (gapM (gsP0 st) u t) z2 (popc u - 1))]) rfl ?_
              have nl := nth_lt u z2
              refine lv_lstore (lv' := [(6, .long (detS (gapM (gsP0 st) u t) z2 (popc u - 1))), (0, .ref h), (1, .int (nI 1)), (2, .int (nI kk)), (3, .long al), (5, .int (nI z2))]) hx hb dX5_solve_42 hl (by decide) rfl (fun ls hl => ?_)
              refine lv_aload_n hx hb dX5_solve_44 rfl (lv_at hl 1 rfl) ?_
              refine g_get hC hP hm.1 rfl inX5 17 (by decide) q3_23 hm.2.2.2.2.2.2.2.2.2.2.2.2.2.2.2.1.1 dX5_solve_45 ?_
              refine lv_aload_n hx hb dX5_solve_48 rfl (lv_at hl 1 rfl) ?_
              refine g_get hC hP hm.1 rfl inX5 15 (by decide) q3_21 hm.2.2.2.2.2.2.2.2.2.2.2.2.2.1.1 dX5_solve_49 ?_
              refine lv_iload hx hb dX5_solve_52 (lv_at hl 5 rfl) ?_
              refine g_iald hC hP hm.2.2.2.2.2.2.2.2.2.2.2.2.2.1.2 (vp_in_nI (by omega) (by decide)) dX5_solve_54 ?_
              refine g_topi (y := nI (nth u z2)) ((congrArg (I (h + 13)) (nI_clamp (by omega))).trans (hch z2 (by omega))) ?_
              refine lv_iload hx hb dX5_solve_55 (lv_at hl 5 rfl) ?_
              refine lv_iconst (v := nI 2) hx hb dX5_solve_57 (by decide) ?_
              refine lv_irem hx hb dX5_solve_58 (by decide) ?_
              refine g_topi (y := nI (z2 % 2)) (g_rem2 (by omega)) ?_
              refine lv_if_ne (tgt := 67) hx hb dX5_solve_59 (by decide) (fun c59 => ?_) (fun c59 => ?_)
              · have c59 := mt (fun q => ((nI_eq (b := 0) (by omega) (by decide)).mpr q).trans nI_0) c59
                refine lv_lload hx hb dX5_solve_67 (lv_at hl 0 rfl) ?_
                refine lv_lneg hx hb dX5_solve_69 ?_
                refine g_last hC hP hS hTA hm.2.2.2.2.2.2.2.2.2.2.2.2.2.2.2.1.2 (vp_in_nI (nth_lt _ _) (by decide)) dX5_solve_70 (fun H33 locs34 hP hS hz36 => ?_)
                rw [show (nI (nth u z2)).toNatClampNeg = nth u z2 from nI_clamp (by omega)] at hP
                obtain ⟨J35, hJ35, hP⟩ : ∃ X : gJ, X = au J32 (h + 15) (nth u z2) (-(detS (gapM (gsP0 st) u t) z2 (popc u - 1))) ∧ gP G T I X Q O H33 := ⟨_, rfl, hP⟩
                refine lv_lload_n hx hb dX5_solve_71 rfl (lv_at hl 4 rfl) ?_
                refine lv_aload_n hx hb dX5_solve_72 rfl (lv_at hl 1 rfl) ?_
                refine g_get hC hP hm.1 rfl inX5 17 (by decide) q3_23 hm.2.2.2.2.2.2.2.2.2.2.2.2.2.2.2.1.1 dX5_solve_73 ?_
                refine lv_aload_n hx hb dX5_solve_76 rfl (lv_at hl 1 rfl) ?_
                refine g_get hC hP hm.1 rfl inX5 15 (by decide) q3_21 hm.2.2.2.2.2.2.2.2.2.2.2.2.2.1.1 dX5_solve_77 ?_
                refine lv_iload hx hb dX5_solve_80 (lv_at hl 5 rfl) ?_
                refine g_iald hC hP hm.2.2.2.2.2.2.2.2.2.2.2.2.2.1.2 (vp_in_nI (by omega) (by decide)) dX5_solve_82 ?_
                refine g_topi (y := nI (nth u z2)) ((congrArg (I (h + 13)) (nI_clamp (by omega))).trans (hch z2 (by omega))) ?_
                refine g_lald hC hP hm.2.2.2.2.2.2.2.2.2.2.2.2.2.2.2.1.2 (vp_in_nI (nth_lt _ _) (by decide)) dX5_solve_83 ?_
                refine g_topl (y := candX (gsP0 st) u t (nth u z2)) ((congrArg (J35 (h + 15)) (nI_clamp (by omega))).trans (by rw [hJ35, au_row, gu_eq, cX_nth hu (by omega)]; first | rw [if_pos c59] | rw [if_neg c59])) ?_
                refine lv_ladd hx hb dX5_solve_84 ?_
                refine lv_lstore_n (lv' := [(3, .long (al + (candX (gsP0 st) u t (nth u z2)))), (6, .long (detS (gapM (gsP0 st) u t) z2 (popc u - 1))), (0, .ref h), (1, .int (nI 1)), (2, .int (nI kk)), (5, .int (nI z2))]) hx hb dX5_solve_85 rfl hl (by decide) rfl (fun ls hl => ?_)
                have gn : J35 = shG J h X31 (gu S2 (nth u z2) (candX (gsP0 st) u t (nth u z2))) := by rw [hJ35, hJ32, g1, shG_12, shG_set]; exact congrArg (fun q => shG J h X31 (gu S2 (nth u z2) q)) (by rw [cX_nth hu (by omega)]; first | rw [if_pos c59] | rw [if_neg c59])
                refine lv_iinc (v := nI (z2 + 1)) (lv' := [(5, .int (nI (z2 + 1))), (3, .long (al + (candX (gsP0 st) u t (nth u z2)))), (6, .long (detS (gapM (gsP0 st) u t) z2 (popc u - 1))), (0, .ref h), (1, .int (nI 1)), (2, .int (nI kk))]) hx hb dX5_solve_86 hl (k := 5) rfl (nI_inc _) (by decide) rfl (fun ls hl => ?_)
                refine lv_goto (tgt := 28) hx hb dX5_solve_89 (by decide) ?_
                exact ih28 (z2 + 1) (al + (candX (gsP0 st) u t (nth u z2))) X31 (gu S2 (nth u z2) (candX (gsP0 st) u t (nth u z2))) J35 (by omega) (by omega) (by rw [hal]; rfl) gn (shF_s hu (by omega) g2) _ _ hP hS ls (lv_sub hl [3, 4, 5, 1, 0] rfl)
              · have c59 := (nI_eq (by omega) (by decide)).mp (c59.trans nI_0.symm)
                refine lv_lload hx hb dX5_solve_62 (lv_at hl 0 rfl) ?_
                refine lv_goto (tgt := 70) hx hb dX5_solve_64 (by decide) ?_
                refine g_last hC hP hS hTA hm.2.2.2.2.2.2.2.2.2.2.2.2.2.2.2.1.2 (vp_in_nI (nth_lt _ _) (by decide)) dX5_solve_70 (fun H37 locs38 hP hS hz40 => ?_)
                rw [show (nI (nth u z2)).toNatClampNeg = nth u z2 from nI_clamp (by omega)] at hP
                obtain ⟨J39, hJ39, hP⟩ : ∃ X : gJ, X = au J32 (h + 15) (nth u z2) (detS (gapM (gsP0 st) u t) z2 (popc u - 1)) ∧ gP G T I X Q O H37 := ⟨_, rfl, hP⟩
                refine lv_lload_n hx hb dX5_solve_71 rfl (lv_at hl 4 rfl) ?_
                refine lv_aload_n hx hb dX5_solve_72 rfl (lv_at hl 1 rfl) ?_
                refine g_get hC hP hm.1 rfl inX5 17 (by decide) q3_23 hm.2.2.2.2.2.2.2.2.2.2.2.2.2.2.2.1.1 dX5_solve_73 ?_
                refine lv_aload_n hx hb dX5_solve_76 rfl (lv_at hl 1 rfl) ?_
                refine g_get hC hP hm.1 rfl inX5 15 (by decide) q3_21 hm.2.2.2.2.2.2.2.2.2.2.2.2.2.1.1 dX5_solve_77 ?_
                refine lv_iload hx hb dX5_solve_80 (lv_at hl 5 rfl) ?_
                refine g_iald hC hP hm.2.2.2.2.2.2.2.2.2.2.2.2.2.1.2 (vp_in_nI (by omega) (by decide)) dX5_solve_82 ?_
                refine g_topi (y := nI (nth u z2)) ((congrArg (I (h + 13)) (nI_clamp (by omega))).trans (hch z2 (by omega))) ?_
                refine g_lald hC hP hm.2.2.2.2.2.2.2.2.2.2.2.2.2.2.2.1.2 (vp_in_nI (nth_lt _ _) (by decide)) dX5_solve_83 ?_
                refine g_topl (y := candX (gsP0 st) u t (nth u z2)) ((congrArg (J39 (h + 15)) (nI_clamp (by omega))).trans (by rw [hJ39, au_row, gu_eq, cX_nth hu (by omega)]; first | rw [if_pos c59] | rw [if_neg c59])) ?_
                refine lv_ladd hx hb dX5_solve_84 ?_
                refine lv_lstore_n (lv' := [(3, .long (al + (candX (gsP0 st) u t (nth u z2)))), (6, .long (detS (gapM (gsP0 st) u t) z2 (popc u - 1))), (0, .ref h), (1, .int (nI 1)), (2, .int (nI kk)), (5, .int (nI z2))]) hx hb dX5_solve_85 rfl hl (by decide) rfl (fun ls hl => ?_)
                have gn : J39 = shG J h X31 (gu S2 (nth u z2) (candX (gsP0 st) u t (nth u z2))) := by rw [hJ39, hJ32, g1, shG_12, shG_set]; exact congrArg (fun q => shG J h X31 (gu S2 (nth u z2) q)) (by rw [cX_nth hu (by omega)]; first | rw [if_pos c59] | rw [if_neg c59])
                refine lv_iinc (v := nI (z2 + 1)) (lv' := [(5, .int (nI (z2 + 1))), (3, .long (al + (candX (gsP0 st) u t (nth u z2)))), (6, .long (detS (gapM (gsP0 st) u t) z2 (popc u - 1))), (0, .ref h), (1, .int (nI 1)), (2, .int (nI kk))]) hx hb dX5_solve_86 hl (k := 5) rfl (nI_inc _) (by decide) rfl (fun ls hl => ?_)
                refine lv_goto (tgt := 28) hx hb dX5_solve_89 (by decide) ?_
                exact ih28 (z2 + 1) (al + (candX (gsP0 st) u t (nth u z2))) X31 (gu S2 (nth u z2) (candX (gsP0 st) u t (nth u z2))) J39 (by omega) (by omega) (by rw [hal]; rfl) gn (shF_s hu (by omega) g2) _ _ hP hS ls (lv_sub hl [3, 4, 5, 1, 0] rfl)
        exact L28 5 0 (0 : Int64) (J (h + 12)) S J9 (by omega) (by omega) rfl h1 (fun j hj => by rw [shF_0]; exact h2 j (by omega)) _ _ hP hS ls (lv_sub hl [1, 2, 3, 4, 0] rfl)
      · have c8 := mt (nI_leI (by omega) (by omega)).mpr c8
        refine lv_aload_n hx hb dX5_solve_11 rfl (lv_at hl 0 rfl) ?_
        refine g_get hC hP hm.1 rfl inX5 17 (by decide) q3_23 hm.2.2.2.2.2.2.2.2.2.2.2.2.2.2.2.1.1 dX5_solve_12 ?_
        refine lv_iload hx hb dX5_solve_15 (lv_at hl 4 rfl) ?_
        refine lv_lconst (v := 0) hx hb dX5_solve_17 (by decide) ?_
        refine g_last hC hP hS hTA hm.2.2.2.2.2.2.2.2.2.2.2.2.2.2.2.1.2 (vp_in_nI (by omega) (by decide)) dX5_solve_18 (fun H41 locs42 hP hS hz44 => ?_)
        rw [show (nI z).toNatClampNeg = z from nI_clamp (by omega)] at hP
        obtain ⟨J43, hJ43, hP⟩ : ∃ X : gJ, X = au J9 (h + 15) z (0 : Int64) ∧ gP G T I X Q O H41 := ⟨_, rfl, hP⟩
        refine lv_iinc (v := nI (z + 1)) (lv' := [(5, .int (nI (z + 1))), (0, .ref h), (1, .int (nI 1)), (2, .int (nI kk)), (3, .long (0 : Int64))]) hx hb dX5_solve_19 hl (k := 4) rfl (nI_inc _) (by decide) rfl (fun ls hl => ?_)
        refine lv_goto (tgt := 5) hx hb dX5_solve_22 (by decide) ?_
        exact ih5 (z + 1) (gu S z 0) J43 (by omega) (by omega) (by rw [hJ43, h1, shG_set]) (fun j hj => by by_cases e : j = z; (subst e; exact gu_eq _ _ _); (rw [gu_ne _ _ e]; exact h2 j (by omega))) _ _ hP hS ls (lv_sub hl [1, 2, 3, 4, 0] rfl)
  exact L5 5 0 (J (h + 15)) J (by omega) (by omega) (shG_self _ _) (fun j hj => absurd hj (Nat.not_lt_zero j)) _ _ hP hS ls (lv_sub hl [2, 3, 4, 1, 0] rfl)
