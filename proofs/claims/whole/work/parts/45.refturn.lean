/-! ===== the reference: turn ===== -/
theorem mo_turn {G : gG} {T : gTy} {I I2 : gI} {J : gJ} {Q : gR} {O : gO} {H1 : Heap} {h : Nat} {st : GS} {X Y V : Nat → Int32} (hm : isMo T O h) (hs : moS I h st) (hX : ∀ j, j < 32 → X j = I (h + 2) j) (hX2 : ∀ j, j < 8 → X (32 + j) = I (h + 3) j) (hY : ∀ i k, i < 4 → k < 4 → Y (4 * i + k) = X (16 + 4 * k + i) ∧ Y (16 + 4 * i + k) = X (4 * k + i)) (hV : ∀ j, j < 4 → V j = X (36 + j) ∧ V (4 + j) = X (32 + j)) (hI : I2 = au (au (gu (gu (gu I (h + 16) X) (h + 2) Y) (h + 3) V) (h + 1) 0 (nI (gsn st))) (h + 1) 1 (nI (gsm st))) (hP : gP G T I2 J Q O H1) : moR G T h (gsn st, gsm st, gsP1 st, gsP0 st, gsw1 st, gsw0 st, gsrf st) H1 := by
  obtain ⟨a1, a2, a3, a4, a5, a6, a7, a8, a9⟩ := hs
  have e2 : I2 (h + 2) = Y := by rw [hI, au_ne _ _ _ (by omega), au_ne _ _ _ (by omega), gu_ne _ _ (by omega), gu_eq]
  have e3 : I2 (h + 3) = V := by rw [hI, au_ne _ _ _ (by omega), au_ne _ _ _ (by omega), gu_eq]
  have e4 : I2 (h + 4) = I (h + 4) := by rw [hI, au_ne _ _ _ (by omega), au_ne _ _ _ (by omega), gu_ne _ _ (by omega), gu_ne _ _ (by omega), gu_ne _ _ (by omega)]
  refine ⟨I2, J, Q, O, hP, hm, a2, a1, ?_, ?_, fun i k hi hk => ?_, fun i k hi hk => ?_, fun j hj => ?_, fun j hj => ?_, fun j hj => ?_⟩
  · rw [hI, au_row, gu_ne _ _ (by decide), au_row, gu_eq]
  · rw [hI, au_row, gu_eq]
  · rw [e2, (hY i k hi hk).1, hX _ (by omega)]; exact a6 k i hk hi
  · rw [e2, (hY i k hi hk).2, hX _ (by omega)]; exact a5 k i hk hi
  · rw [e3, (hV j hj).1, show 36 + j = 32 + (4 + j) from by omega, hX2 _ (by omega)]; exact a8 j hj
  · rw [e3, (hV j hj).2, hX2 _ (by omega)]; exact a7 j hj
  · rw [e4]; exact a9 j hj
set_option maxHeartbeats 4000000 in
set_option maxRecDepth 100000 in
theorem c_X5_turn (l : Launch) {G : gG} {T : gTy} {I : gI} {J : gJ} {Q : gR} {O : gO} {H : Heap} (hP : gP G T I J Q O H) {h : Nat} {st : GS}  (hm : isMo T O h) (hs0 : moS I h st) : Met l yX5_turn (gw yX5_turn cX5_turn 3 (some (.int))) ({ frames := 0, cells := 0, slots := 0, locals := 0 } : Room) (gPc G H [.ref h]) (gQc (gF T H) (fun x H1 => rTurn st (fun x1 s1 => x = some (.int x1) ∧ moR G T h s1 H1) )) 0 0 (gF T H) := by
  refine g_met [(0, .ref h)] (by decide) rfl (by exact Nat.le_of_ble_eq_true rfl) ?_
  intro p e s m below meth c hC hs ls hl
  have hx := hC.1.1
  have hb := hC.1.2.1
  have hS : va_S (gF T H) s.heap H [] := hs ▸ va_S.rf
  have hTA : ∀ q, (T q).1 ≠ 0 → gF T H q := fun q h => Or.inl h
  have hA : ∀ q, s.heap.size ≤ q → gF T H q := fun q h => Or.inr (hs ▸ h)
  generalize hAe : gF T H = A at hS hTA hA ⊢
  have hms := hs0.1
  have hns := hs0.2.1
  refine lv_iconst (v := nI 0) hx hb dX5_turn_0 (by decide) ?_
  refine lv_istore_n (lv' := [(1, .int (nI 0)), (0, .ref h)]) hx hb dX5_turn_1 rfl hl (by decide) rfl (fun ls hl => ?_)
  have L2 : ∀ (n2 : Nat) (z : Nat) (X : Nat → Int32) (I7 : gI), 33 ≤ n2 + z → (z ≤ 32) → (I7 = gu I (h + 16) X) → (∀ j, j < z → X j = I (h + 2) j) → ∀ (Hl : Heap) (lcl : List Loc), gP G T I7 J Q O Hl → va_S A s.heap Hl lcl → ∀ ls : Array Slot, lv_has ls 3 [(0, .ref h), (1, .int (nI z))] → W p l e ({ frames := 0, cells := 0, slots := 0, locals := 0 } : Room) s m [.ref h].toArray below meth c Hl lcl 0 0 (MQ below (gQc A (fun x H1 => rTurn st (fun x1 s1 => x = some (.int x1) ∧ moR G T h s1 H1) )) [.ref h].toArray s 0 0 A) (F0 m 2 ls []) := by
    intro n2
    induction n2 with
    | zero => intro z X I7 hn2 hz h1 h2; exact absurd hn2 (by omega)
    | succ n2 ih2 =>
      intro z X I7 hn2 hz h1 h2 Hl lcl hP hS ls hl
      refine lv_iload_n hx hb dX5_turn_2 rfl (lv_at hl 1 rfl) ?_
      refine lv_bipush (v := nI 32) hx hb dX5_turn_3 (by decide) ?_
      refine lv_icmp_ge (tgt := 26) hx hb dX5_turn_5 (by decide) (fun c5 => ?_) (fun c5 => ?_)
      · have c5 := (nI_leI (by omega) (by omega)).mp c5
        refine lv_iconst (v := nI 0) hx hb dX5_turn_26 (by decide) ?_
        refine lv_istore_n (lv' := [(1, .int (nI 0)), (0, .ref h)]) hx hb dX5_turn_27 rfl hl (by decide) rfl (fun ls hl => ?_)
        have L28 : ∀ (n28 : Nat) (z2 : Nat) (X2 : Nat → Int32) (I8 : gI), 9 ≤ n28 + z2 → (z2 ≤ 8) → (I8 = gu I (h + 16) X2) → (∀ j, j < 32 → X2 j = I (h + 2) j) → (∀ j, j < z2 → X2 (32 + j) = I (h + 3) j) → ∀ (Hl : Heap) (lcl : List Loc), gP G T I8 J Q O Hl → va_S A s.heap Hl lcl → ∀ ls : Array Slot, lv_has ls 3 [(0, .ref h), (1, .int (nI z2))] → W p l e ({ frames := 0, cells := 0, slots := 0, locals := 0 } : Room) s m [.ref h].toArray below meth c Hl lcl 0 0 (MQ below (gQc A (fun x H1 => rTurn st (fun x1 s1 => x = some (.int x1) ∧ moR G T h s1 H1) )) [.ref h].toArray s 0 0 A) (F0 m 28 ls []) := by
          intro n28
          induction n28 with
          | zero => intro z2 X2 I8 hn28 hz2 g1 g2 g3; exact absurd hn28 (by omega)
          | succ n28 ih28 =>
            intro z2 X2 I8 hn28 hz2 g1 g2 g3 Hl lcl hP hS ls hl
            refine lv_iload_n hx hb dX5_turn_28 rfl (lv_at hl 1 rfl) ?_
            refine lv_bipush (v := nI 8) hx hb dX5_turn_29 (by decide) ?_
            refine lv_icmp_ge (tgt := 55) hx hb dX5_turn_31 (by decide) (fun c31 => ?_) (fun c31 => ?_)
            · have c31 := (nI_leI (by omega) (by omega)).mp c31
              refine lv_iconst (v := nI 0) hx hb dX5_turn_55 (by decide) ?_
              refine lv_istore_n (lv' := [(1, .int (nI 0)), (0, .ref h)]) hx hb dX5_turn_56 rfl hl (by decide) rfl (fun ls hl => ?_)
              have L57 : ∀ (n57 : Nat) (z3 : Nat) (Y : Nat → Int32) (V : Nat → Int32) (I9 : gI), 5 ≤ n57 + z3 → (z3 ≤ 4) → (I9 = gu (gu (gu I (h + 16) X2) (h + 2) Y) (h + 3) V) → (∀ i k, i < z3 → k < 4 → Y (4 * i + k) = X2 (16 + 4 * k + i) ∧ Y (16 + 4 * i + k) = X2 (4 * k + i)) → (∀ j, j < z3 → V j = X2 (36 + j) ∧ V (4 + j) = X2 (32 + j)) → ∀ (Hl : Heap) (lcl : List Loc), gP G T I9 J Q O Hl → va_S A s.heap Hl lcl → ∀ ls : Array Slot, lv_has ls 3 [(0, .ref h), (1, .int (nI z3))] → W p l e ({ frames := 0, cells := 0, slots := 0, locals := 0 } : Room) s m [.ref h].toArray below meth c Hl lcl 0 0 (MQ below (gQc A (fun x H1 => rTurn st (fun x1 s1 => x = some (.int x1) ∧ moR G T h s1 H1) )) [.ref h].toArray s 0 0 A) (F0 m 57 ls []) := by
                intro n57
                induction n57 with
                | zero => intro z3 Y V I9 hn57 hz3 k1 k2 k3; exact absurd hn57 (by omega)
                | succ n57 ih57 =>
                  intro z3 Y V I9 hn57 hz3 k1 k2 k3 Hl lcl hP hS ls hl
                  refine lv_iload_n hx hb dX5_turn_57 rfl (lv_at hl 1 rfl) ?_
                  refine lv_iconst (v := nI 4) hx hb dX5_turn_58 (by decide) ?_
                  refine lv_icmp_ge (tgt := 159) hx hb dX5_turn_59 (by decide) (fun c59 => ?_) (fun c59 => ?_)
                  · have c59 := (nI_leI (by omega) (by omega)).mp c59
                    refine lv_aload_n hx hb dX5_turn_159 rfl (lv_at hl 0 rfl) ?_
                    refine g_get hC hP hm.1 rfl inX5 0 (by decide) q3_6 hm.2.1.1 dX5_turn_160 ?_
                    refine lv_iconst (v := nI 0) hx hb dX5_turn_163 (by decide) ?_
                    refine g_iald hC hP hm.2.1.2 (vp_in_nI (by omega) (by decide)) dX5_turn_164 ?_
                    refine g_topi (y := nI (gsm st)) (by rw [k1, gu_ne _ _ (by omega), gu_ne _ _ (by omega), gu_ne _ _ (by omega)]; exact hs0.2.2.1) ?_
                    refine lv_istore_n (lv' := [(1, .int (nI (gsm st))), (0, .ref h)]) hx hb dX5_turn_165 rfl hl (by decide) rfl (fun ls hl => ?_)
                    refine lv_aload_n hx hb dX5_turn_166 rfl (lv_at hl 1 rfl) ?_
                    refine g_get hC hP hm.1 rfl inX5 0 (by decide) q3_6 hm.2.1.1 dX5_turn_167 ?_
                    refine lv_iconst (v := nI 0) hx hb dX5_turn_170 (by decide) ?_
                    refine lv_aload_n hx hb dX5_turn_171 rfl (lv_at hl 1 rfl) ?_
                    refine g_get hC hP hm.1 rfl inX5 0 (by decide) q3_6 hm.2.1.1 dX5_turn_172 ?_
                    refine lv_iconst (v := nI 1) hx hb dX5_turn_175 (by decide) ?_
                    refine g_iald hC hP hm.2.1.2 (vp_in_nI (by omega) (by decide)) dX5_turn_176 ?_
                    refine g_topi (y := nI (gsn st)) (by rw [k1, gu_ne _ _ (by omega), gu_ne _ _ (by omega), gu_ne _ _ (by omega)]; exact hs0.2.2.2.1) ?_
                    refine g_iast hC hP hS hTA hm.2.1.2 (vp_in_nI (by omega) (by decide)) dX5_turn_177 (fun H1 locs2 hP hS hz4 => ?_)
                    rw [show (nI 0).toNatClampNeg = 0 from nI_clamp (by omega)] at hP
                    obtain ⟨I3, hI3, hP⟩ : ∃ X : gI, X = au I9 (h + 1) 0 (nI (gsn st)) ∧ gP G T X J Q O H1 := ⟨_, rfl, hP⟩
                    refine lv_aload_n hx hb dX5_turn_178 rfl (lv_at hl 1 rfl) ?_
                    refine g_get hC hP hm.1 rfl inX5 0 (by decide) q3_6 hm.2.1.1 dX5_turn_179 ?_
                    refine lv_iconst (v := nI 1) hx hb dX5_turn_182 (by decide) ?_
                    refine lv_iload_n hx hb dX5_turn_183 rfl (lv_at hl 0 rfl) ?_
                    refine g_iast hC hP hS hTA hm.2.1.2 (vp_in_nI (by omega) (by decide)) dX5_turn_184 (fun H5 locs6 hP hS hz8 => ?_)
                    rw [show (nI 1).toNatClampNeg = 1 from nI_clamp (by omega)] at hP
                    obtain ⟨I7, hI7, hP⟩ : ∃ X : gI, X = au I3 (h + 1) 1 (nI (gsm st)) ∧ gP G T X J Q O H5 := ⟨_, rfl, hP⟩
                    refine lv_iconst (v := nI 1) hx hb dX5_turn_185 (by decide) ?_
                    refine g_retci hC hS ?_ dX5_turn_186
                    refine ⟨rfl, mo_turn hm hs0 g2 (fun j hj => g3 j (by omega)) (fun i k hi hk => k2 i k (by omega) hk) (fun j hj => k3 j (by omega)) ?_ hP⟩
                    simp only [*]
                  · have c59 := mt (nI_leI (by omega) (by omega)).mpr c59
                    refine lv_iconst (v := nI 0) hx hb dX5_turn_62 (by decide) ?_
                    refine lv_istore_n (lv' := [(2, .int (nI 0)), (0, .ref h), (1, .int (nI z3))]) hx hb dX5_turn_63 rfl hl (by decide) rfl (fun ls hl => ?_)
                    have L64 : ∀ (n64 : Nat) (y : Nat) (Y2 : Nat → Int32) (I10 : gI), 5 ≤ n64 + y → (y ≤ 4) → (I10 = gu (gu (gu I (h + 16) X2) (h + 2) Y2) (h + 3) V) → (∀ i k, k < 4 → (i < z3 ∨ (i = z3 ∧ k < y)) → Y2 (4 * i + k) = X2 (16 + 4 * k + i) ∧ Y2 (16 + 4 * i + k) = X2 (4 * k + i)) → ∀ (Hl : Heap) (lcl : List Loc), gP G T I10 J Q O Hl → va_S A s.heap Hl lcl → ∀ ls : Array Slot, lv_has ls 3 [(0, .ref h), (1, .int (nI z3)), (2, .int (nI y))] → W p l e ({ frames := 0, cells := 0, slots := 0, locals := 0 } : Room) s m [.ref h].toArray below meth c Hl lcl 0 0 (MQ below (gQc A (fun x H1 => rTurn st (fun x1 s1 => x = some (.int x1) ∧ moR G T h s1 H1) )) [.ref h].toArray s 0 0 A) (F0 m 64 ls []) := by
                      intro n64
                      induction n64 with
                      | zero => intro y Y2 I10 hn64 hy i1 i2; exact absurd hn64 (by omega)
                      | succ n64 ih64 =>
                        intro y Y2 I10 hn64 hy i1 i2 Hl lcl hP hS ls hl
                        refine lv_iload_n hx hb dX5_turn_64 rfl (lv_at hl 2 rfl) ?_
                        refine lv_iconst (v := nI 4) hx hb dX5_turn_65 (by decide) ?_
                        refine lv_icmp_ge (tgt := 121) hx hb dX5_turn_66 (by decide) (fun c66 => ?_) (fun c66 => ?_)
                        · have c66 := (nI_leI (by omega) (by omega)).mp c66
                          refine lv_aload_n hx hb dX5_turn_121 rfl (lv_at hl 0 rfl) ?_
                          refine g_get hC hP hm.1 rfl inX5 2 (by decide) q3_8 hm.2.2.2.1.1 dX5_turn_122 ?_
                          refine lv_iload_n hx hb dX5_turn_125 rfl (lv_at hl 1 rfl) ?_
                          refine lv_aload_n hx hb dX5_turn_126 rfl (lv_at hl 0 rfl) ?_
                          refine g_get hC hP hm.1 rfl inX5 18 (by decide) q3_24 hm.2.2.2.2.2.2.2.2.2.2.2.2.2.2.2.2.1 dX5_turn_127 ?_
                          refine lv_bipush (v := nI 36) hx hb dX5_turn_130 (by decide) ?_
                          refine lv_iload_n hx hb dX5_turn_132 rfl (lv_at hl 1 rfl) ?_
                          refine lv_iadd hx hb dX5_turn_133 ?_
                          refine g_topi (y := nI (36 + z3)) (nI_add _ _) ?_
                          refine g_iald hC hP hm.2.2.2.2.2.2.2.2.2.2.2.2.2.2.2.2.2 (vp_in_nI (by omega) (by decide)) dX5_turn_134 ?_
                          refine g_topi (y := X2 (36 + z3)) ((congrArg (I10 (h + 16)) (nI_clamp (by omega))).trans (by rw [i1, gu_ne _ _ (by omega), gu_ne _ _ (by omega), gu_eq])) ?_
                          refine g_iast hC hP hS hTA hm.2.2.2.1.2 (vp_in_nI (by omega) (by decide)) dX5_turn_135 (fun H9 locs10 hP hS hz12 => ?_)
                          rw [show (nI z3).toNatClampNeg = z3 from nI_clamp (by omega)] at hP
                          obtain ⟨I11, hI11, hP⟩ : ∃ X : gI, X = au I10 (h + 3) z3 (X2 (36 + z3)) ∧ gP G T X J Q O H9 := ⟨_, rfl, hP⟩
                          refine lv_aload_n hx hb dX5_turn_136 rfl (lv_at hl 0 rfl) ?_
                          refine g_get hC hP hm.1 rfl inX5 2 (by decide) q3_8 hm.2.2.2.1.1 dX5_turn_137 ?_
                          refine lv_iconst (v := nI 4) hx hb dX5_turn_140 (by decide) ?_
                          refine lv_iload_n hx hb dX5_turn_141 rfl (lv_at hl 1 rfl) ?_
                          refine lv_iadd hx hb dX5_turn_142 ?_
                          refine g_topi (y := nI (4 + z3)) (nI_add _ _) ?_
                          refine lv_aload_n hx hb dX5_turn_143 rfl (lv_at hl 0 rfl) ?_
                          refine g_get hC hP hm.1 rfl inX5 18 (by decide) q3_24 hm.2.2.2.2.2.2.2.2.2.2.2.2.2.2.2.2.1 dX5_turn_144 ?_
                          refine lv_bipush (v := nI 32) hx hb dX5_turn_147 (by decide) ?_
                          refine lv_iload_n hx hb dX5_turn_149 rfl (lv_at hl 1 rfl) ?_
                          refine lv_iadd hx hb dX5_turn_150 ?_
                          refine g_topi (y := nI (32 + z3)) (nI_add _ _) ?_
                          refine g_iald hC hP hm.2.2.2.2.2.2.2.2.2.2.2.2.2.2.2.2.2 (vp_in_nI (by omega) (by decide)) dX5_turn_151 ?_
                          refine g_topi (y := X2 (32 + z3)) ((congrArg (I11 (h + 16)) (nI_clamp (by omega))).trans (by rw [hI11, au_ne _ _ _ (by omega), i1, gu_ne _ _ (by omega), gu_ne _ _ (by omega), gu_eq])) ?_
                          refine g_iast hC hP hS hTA hm.2.2.2.1.2 (vp_in_nI (by omega) (by decide)) dX5_turn_152 (fun H13 locs14 hP hS hz16 => ?_)
                          rw [show (nI (4 + z3)).toNatClampNeg = 4 + z3 from nI_clamp (by omega)] at hP
                          obtain ⟨I15, hI15, hP⟩ : ∃ X : gI, X = au I11 (h + 3) (4 + z3) (X2 (32 + z3)) ∧ gP G T X J Q O H13 := ⟨_, rfl, hP⟩
                          refine lv_iinc (v := nI (z3 + 1)) (lv' := [(1, .int (nI (z3 + 1))), (0, .ref h), (2, .int (nI y))]) hx hb dX5_turn_153 hl (k := 1) rfl (nI_inc _) (by decide) rfl (fun ls hl => ?_)
                          refine lv_goto (tgt := 57) hx hb dX5_turn_156 (by decide) ?_
                          exact ih57 (z3 + 1) Y2 (gu (gu V z3 (X2 (36 + z3))) (4 + z3) (X2 (32 + z3))) I15 (by omega) (by omega) (by simp only [*]; rw [au_gu, au_gu]) (fun i k hi hk => i2 i k hk (by omega)) (fun j hj => by by_cases e : j = z3; (subst e; exact ⟨by rw [gu_ne _ _ (by omega), gu_eq], gu_eq _ _ _⟩); (rw [gu_ne _ _ (by omega), gu_ne _ _ (by omega), gu_ne _ _ (by omega), gu_ne _ _ (by omega)]; exact k3 j (by omega))) _ _ hP hS ls (lv_sub hl [1, 0] rfl)
                        · have c66 := mt (nI_leI (by omega) (by omega)).mpr c66
                          refine lv_aload_n hx hb dX5_turn_69 rfl (lv_at hl 0 rfl) ?_
                          refine g_get hC hP hm.1 rfl inX5 1 (by decide) q3_7 hm.2.2.1.1 dX5_turn_70 ?_
                          refine lv_iconst (v := nI 4) hx hb dX5_turn_73 (by decide) ?_
                          refine lv_iload_n hx hb dX5_turn_74 rfl (lv_at hl 1 rfl) ?_
                          refine lv_imul hx hb dX5_turn_75 ?_
                          refine g_topi (y := nI (4 * z3)) (nI_mul _ _) ?_
                          refine lv_iload_n hx hb dX5_turn_76 rfl (lv_at hl 2 rfl) ?_
                          refine lv_iadd hx hb dX5_turn_77 ?_
                          refine g_topi (y := nI (4 * z3 + y)) (nI_add _ _) ?_
                          refine lv_aload_n hx hb dX5_turn_78 rfl (lv_at hl 0 rfl) ?_
                          refine g_get hC hP hm.1 rfl inX5 18 (by decide) q3_24 hm.2.2.2.2.2.2.2.2.2.2.2.2.2.2.2.2.1 dX5_turn_79 ?_
                          refine lv_bipush (v := nI 16) hx hb dX5_turn_82 (by decide) ?_
                          refine lv_iconst (v := nI 4) hx hb dX5_turn_84 (by decide) ?_
                          refine lv_iload_n hx hb dX5_turn_85 rfl (lv_at hl 2 rfl) ?_
                          refine lv_imul hx hb dX5_turn_86 ?_
                          refine g_topi (y := nI (4 * y)) (nI_mul _ _) ?_
                          refine lv_iadd hx hb dX5_turn_87 ?_
                          refine g_topi (y := nI (16 + (4 * y))) (nI_add _ _) ?_
                          refine lv_iload_n hx hb dX5_turn_88 rfl (lv_at hl 1 rfl) ?_
                          refine lv_iadd hx hb dX5_turn_89 ?_
                          refine g_topi (y := nI (16 + (4 * y) + z3)) (nI_add _ _) ?_
                          refine g_iald hC hP hm.2.2.2.2.2.2.2.2.2.2.2.2.2.2.2.2.2 (vp_in_nI (by omega) (by decide)) dX5_turn_90 ?_
                          refine g_topi (y := X2 (16 + 4 * y + z3)) ((congrArg (I10 (h + 16)) (nI_clamp (by omega))).trans (by rw [i1, gu_ne _ _ (by omega), gu_ne _ _ (by omega), gu_eq])) ?_
                          refine g_iast hC hP hS hTA hm.2.2.1.2 (vp_in_nI (by omega) (by decide)) dX5_turn_91 (fun H17 locs18 hP hS hz20 => ?_)
                          rw [show (nI (4 * z3 + y)).toNatClampNeg = 4 * z3 + y from nI_clamp (by omega)] at hP
                          obtain ⟨I19, hI19, hP⟩ : ∃ X : gI, X = au I10 (h + 2) (4 * z3 + y) (X2 (16 + 4 * y + z3)) ∧ gP G T X J Q O H17 := ⟨_, rfl, hP⟩
                          refine lv_aload_n hx hb dX5_turn_92 rfl (lv_at hl 0 rfl) ?_
                          refine g_get hC hP hm.1 rfl inX5 1 (by decide) q3_7 hm.2.2.1.1 dX5_turn_93 ?_
                          refine lv_bipush (v := nI 16) hx hb dX5_turn_96 (by decide) ?_
                          refine lv_iconst (v := nI 4) hx hb dX5_turn_98 (by decide) ?_
                          refine lv_iload_n hx hb dX5_turn_99 rfl (lv_at hl 1 rfl) ?_
                          refine lv_imul hx hb dX5_turn_100 ?_
                          refine g_topi (y := nI (4 * z3)) (nI_mul _ _) ?_
                          refine lv_iadd hx hb dX5_turn_101 ?_
                          refine g_topi (y := nI (16 + (4 * z3))) (nI_add _ _) ?_
                          refine lv_iload_n hx hb dX5_turn_102 rfl (lv_at hl 2 rfl) ?_
                          refine lv_iadd hx hb dX5_turn_103 ?_
                          refine g_topi (y := nI (16 + (4 * z3) + y)) (nI_add _ _) ?_
                          refine lv_aload_n hx hb dX5_turn_104 rfl (lv_at hl 0 rfl) ?_
                          refine g_get hC hP hm.1 rfl inX5 18 (by decide) q3_24 hm.2.2.2.2.2.2.2.2.2.2.2.2.2.2.2.2.1 dX5_turn_105 ?_
                          refine lv_iconst (v := nI 4) hx hb dX5_turn_108 (by decide) ?_
                          refine lv_iload_n hx hb dX5_turn_109 rfl (lv_at hl 2 rfl) ?_
                          refine lv_imul hx hb dX5_turn_110 ?_
                          refine g_topi (y := nI (4 * y)) (nI_mul _ _) ?_
                          refine lv_iload_n hx hb dX5_turn_111 rfl (lv_at hl 1 rfl) ?_
                          refine lv_iadd hx hb dX5_turn_112 ?_
                          refine g_topi (y := nI (4 * y + z3)) (nI_add _ _) ?_
                          refine g_iald hC hP hm.2.2.2.2.2.2.2.2.2.2.2.2.2.2.2.2.2 (vp_in_nI (by omega) (by decide)) dX5_turn_113 ?_
                          refine g_topi (y := X2 (4 * y + z3)) ((congrArg (I19 (h + 16)) (nI_clamp (by omega))).trans (by rw [hI19, au_ne _ _ _ (by omega), i1, gu_ne _ _ (by omega), gu_ne _ _ (by omega), gu_eq])) ?_
                          refine g_iast hC hP hS hTA hm.2.2.1.2 (vp_in_nI (by omega) (by decide)) dX5_turn_114 (fun H21 locs22 hP hS hz24 => ?_)
                          rw [show (nI (16 + (4 * z3) + y)).toNatClampNeg = 16 + (4 * z3) + y from nI_clamp (by omega)] at hP
                          obtain ⟨I23, hI23, hP⟩ : ∃ X : gI, X = au I19 (h + 2) (16 + (4 * z3) + y) (X2 (4 * y + z3)) ∧ gP G T X J Q O H21 := ⟨_, rfl, hP⟩
                          refine lv_iinc (v := nI (y + 1)) (lv' := [(2, .int (nI (y + 1))), (0, .ref h), (1, .int (nI z3))]) hx hb dX5_turn_115 hl (k := 2) rfl (nI_inc _) (by decide) rfl (fun ls hl => ?_)
                          refine lv_goto (tgt := 64) hx hb dX5_turn_118 (by decide) ?_
                          exact ih64 (y + 1) (gu (gu Y2 (4 * z3 + y) (X2 (16 + 4 * y + z3))) (16 + 4 * z3 + y) (X2 (4 * y + z3))) I23 (by omega) (by omega) (by simp only [*]; funext q; unfold au gu; by_cases e2 : q = h + 3; (subst e2; simp); by_cases e3 : q = h + 2; (subst e3; simp); simp [e2, e3]) (fun i k hk hh => by by_cases e : i = z3 ∧ k = y; (obtain ⟨rfl, rfl⟩ := e; exact ⟨by rw [gu_ne _ _ (by omega), gu_eq], gu_eq _ _ _⟩); (rw [gu_ne _ _ (by omega), gu_ne _ _ (by omega), gu_ne _ _ (by omega), gu_ne _ _ (by omega)]; exact i2 i k hk (by omega))) _ _ hP hS ls (lv_sub hl [1, 2, 0] rfl)
                    exact L64 5 0 Y I9 (by omega) (by omega) k1 (fun i k hk hh => k2 i k (by omega) hk) _ _ hP hS ls (lv_sub hl [1, 2, 0] rfl)
              exact L57 5 0 (I (h + 2)) (I (h + 3)) I8 (by omega) (by omega) (by rw [g1]; funext q; unfold gu; by_cases e2 : q = h + 3; (subst e2; simp); by_cases e3 : q = h + 2; (subst e3; simp); simp [e2, e3]) (fun i k hi => absurd hi (Nat.not_lt_zero i)) (fun j hj => absurd hj (Nat.not_lt_zero j)) _ _ hP hS ls (lv_sub hl [1, 0] rfl)
            · have c31 := mt (nI_leI (by omega) (by omega)).mpr c31
              refine lv_aload_n hx hb dX5_turn_34 rfl (lv_at hl 0 rfl) ?_
              refine g_get hC hP hm.1 rfl inX5 18 (by decide) q3_24 hm.2.2.2.2.2.2.2.2.2.2.2.2.2.2.2.2.1 dX5_turn_35 ?_
              refine lv_bipush (v := nI 32) hx hb dX5_turn_38 (by decide) ?_
              refine lv_iload_n hx hb dX5_turn_40 rfl (lv_at hl 1 rfl) ?_
              refine lv_iadd hx hb dX5_turn_41 ?_
              refine g_topi (y := nI (32 + z2)) (nI_add _ _) ?_
              refine lv_aload_n hx hb dX5_turn_42 rfl (lv_at hl 0 rfl) ?_
              refine g_get hC hP hm.1 rfl inX5 2 (by decide) q3_8 hm.2.2.2.1.1 dX5_turn_43 ?_
              refine lv_iload_n hx hb dX5_turn_46 rfl (lv_at hl 1 rfl) ?_
              refine g_iald hC hP hm.2.2.2.1.2 (vp_in_nI (by omega) (by decide)) dX5_turn_47 ?_
              refine g_topi (y := I (h + 3) z2) ((congrArg (I8 (h + 3)) (nI_clamp (by omega))).trans (by rw [g1, gu_ne _ _ (by omega)])) ?_
              refine g_iast hC hP hS hTA hm.2.2.2.2.2.2.2.2.2.2.2.2.2.2.2.2.2 (vp_in_nI (by omega) (by decide)) dX5_turn_48 (fun H25 locs26 hP hS hz28 => ?_)
              rw [show (nI (32 + z2)).toNatClampNeg = 32 + z2 from nI_clamp (by omega)] at hP
              obtain ⟨I27, hI27, hP⟩ : ∃ X : gI, X = au I8 (h + 16) (32 + z2) (I (h + 3) z2) ∧ gP G T X J Q O H25 := ⟨_, rfl, hP⟩
              refine lv_iinc (v := nI (z2 + 1)) (lv' := [(1, .int (nI (z2 + 1))), (0, .ref h)]) hx hb dX5_turn_49 hl (k := 1) rfl (nI_inc _) (by decide) rfl (fun ls hl => ?_)
              refine lv_goto (tgt := 28) hx hb dX5_turn_52 (by decide) ?_
              exact ih28 (z2 + 1) (gu X2 (32 + z2) (I (h + 3) z2)) I27 (by omega) (by omega) (by rw [hI27, g1, au_gu]) (fun j hj => by rw [gu_ne _ _ (by omega)]; exact g2 j hj) (fun j hj => by by_cases e : j = z2; (subst e; exact gu_eq _ _ _); (rw [gu_ne _ _ (by omega)]; exact g3 j (by omega))) _ _ hP hS ls (lv_sub hl [1, 0] rfl)
        exact L28 9 0 X I7 (by omega) (by omega) h1 (fun j hj => h2 j (by omega)) (fun j hj => absurd hj (Nat.not_lt_zero j)) _ _ hP hS ls (lv_sub hl [1, 0] rfl)
      · have c5 := mt (nI_leI (by omega) (by omega)).mpr c5
        refine lv_aload_n hx hb dX5_turn_8 rfl (lv_at hl 0 rfl) ?_
        refine g_get hC hP hm.1 rfl inX5 18 (by decide) q3_24 hm.2.2.2.2.2.2.2.2.2.2.2.2.2.2.2.2.1 dX5_turn_9 ?_
        refine lv_iload_n hx hb dX5_turn_12 rfl (lv_at hl 1 rfl) ?_
        refine lv_aload_n hx hb dX5_turn_13 rfl (lv_at hl 0 rfl) ?_
        refine g_get hC hP hm.1 rfl inX5 1 (by decide) q3_7 hm.2.2.1.1 dX5_turn_14 ?_
        refine lv_iload_n hx hb dX5_turn_17 rfl (lv_at hl 1 rfl) ?_
        refine g_iald hC hP hm.2.2.1.2 (vp_in_nI (by omega) (by decide)) dX5_turn_18 ?_
        refine g_topi (y := I (h + 2) z) ((congrArg (I7 (h + 2)) (nI_clamp (by omega))).trans (by rw [h1, gu_ne _ _ (by omega)])) ?_
        refine g_iast hC hP hS hTA hm.2.2.2.2.2.2.2.2.2.2.2.2.2.2.2.2.2 (vp_in_nI (by omega) (by decide)) dX5_turn_19 (fun H29 locs30 hP hS hz32 => ?_)
        rw [show (nI z).toNatClampNeg = z from nI_clamp (by omega)] at hP
        obtain ⟨I31, hI31, hP⟩ : ∃ X : gI, X = au I7 (h + 16) z (I (h + 2) z) ∧ gP G T X J Q O H29 := ⟨_, rfl, hP⟩
        refine lv_iinc (v := nI (z + 1)) (lv' := [(1, .int (nI (z + 1))), (0, .ref h)]) hx hb dX5_turn_20 hl (k := 1) rfl (nI_inc _) (by decide) rfl (fun ls hl => ?_)
        refine lv_goto (tgt := 2) hx hb dX5_turn_23 (by decide) ?_
        exact ih2 (z + 1) (gu X z (I (h + 2) z)) I31 (by omega) (by omega) (by rw [hI31, h1, au_gu]) (fun j hj => by by_cases e : j = z; (subst e; exact gu_eq _ _ _); (rw [gu_ne _ _ (by omega)]; exact h2 j (by omega))) _ _ hP hS ls (lv_sub hl [1, 0] rfl)
  exact L2 33 0 (I (h + 16)) I (by omega) (by omega) (gu_self _ _).symm (fun j hj => absurd hj (Nat.not_lt_zero j)) _ _ hP hS ls (lv_sub hl [1, 0] rfl)
