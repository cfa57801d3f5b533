/-! ===== the reference: put ===== -/
set_option maxHeartbeats 4000000 in
set_option maxRecDepth 100000 in
theorem c_X5_put_0 (l : Launch) {G : gG} {T : gTy} {I : gI} {J : gJ} {Q : gR} {O : gO} {H : Heap} (hP : gP G T I J Q O H) {h ub ab : Nat} {C : CL} {v : MixV} (hm : isMo T O h) (hcr : crR I J h 0 C) (hv : vG v) (hrd : rdV v (J (h + 15)) (alS (J (h + 15)))) (hcg : cG C) (hsr : srt C) (hc79 : C.1 < 80) (eu : ub = v.2.2.1) (ea : ab = v.2.2.2) : Met l yX5_put (gw yX5_put cX5_put 7 (none)) ({ frames := 1, cells := 0, slots := 0, locals := 28 } : Room) (gPc G H [.ref h, .int (nI 0), .int (nI ub), .int (nI ab)]) (gQc (gF T H) (fun r H1 => r = none ∧ ∃ (I2 : gI) (J2 : gJ), gP G T I2 J2 Q O H1 ∧ crR I2 J2 h 0 (insC v C) ∧ crF I J I2 J2 h 0)) 0 0 (gF T H) := by
  refine g_met [(0, .ref h), (1, .int (nI 0)), (2, .int (nI ub)), (3, .int (nI ab))] (by decide) rfl (by exact Nat.le_of_ble_eq_true rfl) ?_
  intro p e s m below meth c hC hs ls hl
  have hx := hC.1.1
  have hb := hC.1.2.1
  have hS : va_S (gF T H) s.heap H [] := hs ▸ va_S.rf
  have hTA : ∀ q, (T q).1 ≠ 0 → gF T H q := fun q h => Or.inl h
  have hA : ∀ q, s.heap.size ≤ q → gF T H q := fun q h => Or.inr (hs ▸ h)
  generalize hAe : gF T H = A at hS hTA hA ⊢
  refine lv_bipush (v := nI 80) hx hb dX5_put_0 (by decide) ?_
  refine lv_iload_n hx hb dX5_put_2 rfl (lv_at hl 1 rfl) ?_
  refine lv_imul hx hb dX5_put_3 ?_
  refine g_topi (y := nI (80 * 0)) (nI_mul _ _) ?_
  refine lv_istore (lv' := [(4, .int (nI (80 * 0))), (0, .ref h), (1, .int (nI 0)), (2, .int (nI ub)), (3, .int (nI ab))]) hx hb dX5_put_4 hl (by decide) rfl (fun ls hl => ?_)
  have L6 : ∀ (n6 : Nat) (a : Nat), 81 ≤ n6 + a → (a ≤ C.1) → (∀ j, j < a → 0 < ordV v (C.2 j)) → ∀ (Hl : Heap) (lcl : List Loc), gP G T I J Q O Hl → va_S A s.heap Hl lcl → ∀ ls : Array Slot, lv_has ls 7 [(0, .ref h), (1, .int (nI 0)), (2, .int (nI ub)), (3, .int (nI ab)), (4, .int (nI (80 * 0 + a)))] → W p l e ({ frames := 1, cells := 0, slots := 0, locals := 28 } : Room) s m [.ref h, .int (nI 0), .int (nI ub), .int (nI ab)].toArray below meth c Hl lcl 0 0 (MQ below (gQc A (fun r H1 => r = none ∧ ∃ (I2 : gI) (J2 : gJ), gP G T I2 J2 Q O H1 ∧ crR I2 J2 h 0 (insC v C) ∧ crF I J I2 J2 h 0)) [.ref h, .int (nI 0), .int (nI ub), .int (nI ab)].toArray s 0 0 A) (F0 m 6 ls []) := by
    intro n6
    induction n6 with
    | zero => intro a hn6 ha h1; exact absurd hn6 (by omega)
    | succ n6 ih6 =>
      intro a hn6 ha h1 Hl lcl hP hS ls hl
      refine lv_iload hx hb dX5_put_6 (lv_at hl 4 rfl) ?_
      refine lv_bipush (v := nI 80) hx hb dX5_put_8 (by decide) ?_
      refine lv_iload_n hx hb dX5_put_10 rfl (lv_at hl 1 rfl) ?_
      refine lv_imul hx hb dX5_put_11 ?_
      refine g_topi (y := nI (80 * 0)) (nI_mul _ _) ?_
      refine lv_aload_n hx hb dX5_put_12 rfl (lv_at hl 0 rfl) ?_
      refine g_get hC hP hm.1 rfl inX5 9 (by decide) q3_15 hm.2.2.2.2.2.2.2.1.1 dX5_put_13 ?_
      refine lv_iload_n hx hb dX5_put_16 rfl (lv_at hl 1 rfl) ?_
      refine g_iald hC hP hm.2.2.2.2.2.2.2.1.2 (vp_in_nI (by omega) (by decide)) dX5_put_17 ?_
      refine g_topi (y := nI C.1) hcr.1 ?_
      refine lv_iadd hx hb dX5_put_18 ?_
      refine g_topi (y := nI (80 * 0 + C.1)) (nI_add _ _) ?_
      refine lv_icmp_ge (tgt := 37) hx hb dX5_put_19 (by decide) (fun c19 => ?_) (fun c19 => ?_)
      · have c19 := (nI_leI (by omega) (by omega)).mp c19
        refine lv_iload hx hb dX5_put_37 (lv_at hl 4 rfl) ?_
        refine lv_bipush (v := nI 80) hx hb dX5_put_39 (by decide) ?_
        refine lv_iload_n hx hb dX5_put_41 rfl (lv_at hl 1 rfl) ?_
        refine lv_imul hx hb dX5_put_42 ?_
        refine g_topi (y := nI (80 * 0)) (nI_mul _ _) ?_
        refine lv_aload_n hx hb dX5_put_43 rfl (lv_at hl 0 rfl) ?_
        refine g_get hC hP hm.1 rfl inX5 9 (by decide) q3_15 hm.2.2.2.2.2.2.2.1.1 dX5_put_44 ?_
        refine lv_iload_n hx hb dX5_put_47 rfl (lv_at hl 1 rfl) ?_
        refine g_iald hC hP hm.2.2.2.2.2.2.2.1.2 (vp_in_nI (by omega) (by decide)) dX5_put_48 ?_
        refine g_topi (y := nI C.1) hcr.1 ?_
        refine lv_iadd hx hb dX5_put_49 ?_
        refine g_topi (y := nI (80 * 0 + C.1)) (nI_add _ _) ?_
        refine lv_icmp_ge (tgt := 63) hx hb dX5_put_50 (by decide) (fun c50 => ?_) (fun c50 => ?_)
        · have c50 := (nI_leI (by omega) (by omega)).mp c50
          have h2 : a < C.1 → ordV v (C.2 a) < 0 := fun q => absurd q (by omega)
          obtain ⟨ei, es⟩ := ins_new hv hcg hsr (by omega) h1 h2
          refine lv_bipush (v := nI 80) hx hb dX5_put_63 (by decide) ?_
          refine lv_iload_n hx hb dX5_put_65 rfl (lv_at hl 1 rfl) ?_
          refine lv_imul hx hb dX5_put_66 ?_
          refine g_topi (y := nI (80 * 0)) (nI_mul _ _) ?_
          refine lv_aload_n hx hb dX5_put_67 rfl (lv_at hl 0 rfl) ?_
          refine g_get hC hP hm.1 rfl inX5 9 (by decide) q3_15 hm.2.2.2.2.2.2.2.1.1 dX5_put_68 ?_
          refine lv_iload_n hx hb dX5_put_71 rfl (lv_at hl 1 rfl) ?_
          refine g_iald hC hP hm.2.2.2.2.2.2.2.1.2 (vp_in_nI (by omega) (by decide)) dX5_put_72 ?_
          refine g_topi (y := nI C.1) hcr.1 ?_
          refine lv_iadd hx hb dX5_put_73 ?_
          refine g_topi (y := nI (80 * 0 + C.1)) (nI_add _ _) ?_
          refine lv_istore (lv' := [(5, .int (nI (80 * 0 + C.1))), (0, .ref h), (1, .int (nI 0)), (2, .int (nI ub)), (3, .int (nI ab)), (4, .int (nI (80 * 0 + a)))]) hx hb dX5_put_74 hl (by decide) rfl (fun ls hl => ?_)
          have L76 : ∀ (n76 : Nat) (b : Nat) (I9 : gI) (J9 : gJ), b + 1 ≤ n76 → (a ≤ b ∧ b ≤ C.1) → (∀ q, q ≠ h + 10 → q ≠ h + 11 → I9 q = I q) → (∀ q, q ≠ h + 8 → q ≠ h + 9 → J9 q = J q) → (shS I9 J9 I J h (80 * 0 + b) (80 * 0 + C.1)) → ∀ (Hl : Heap) (lcl : List Loc), gP G T I9 J9 Q O Hl → va_S A s.heap Hl lcl → ∀ ls : Array Slot, lv_has ls 7 [(0, .ref h), (1, .int (nI 0)), (2, .int (nI ub)), (3, .int (nI ab)), (4, .int (nI (80 * 0 + a))), (5, .int (nI (80 * 0 + b)))] → W p l e ({ frames := 1, cells := 0, slots := 0, locals := 28 } : Room) s m [.ref h, .int (nI 0), .int (nI ub), .int (nI ab)].toArray below meth c Hl lcl 0 0 (MQ below (gQc A (fun r H1 => r = none ∧ ∃ (I2 : gI) (J2 : gJ), gP G T I2 J2 Q O H1 ∧ crR I2 J2 h 0 (insC v C) ∧ crF I J I2 J2 h 0)) [.ref h, .int (nI 0), .int (nI ub), .int (nI ab)].toArray s 0 0 A) (F0 m 76 ls []) := by
            intro n76
            induction n76 with
            | zero => intro b I9 J9 hn76 hb2 s1 s2 s3; exact absurd hn76 (by omega)
            | succ n76 ih76 =>
              intro b I9 J9 hn76 hb2 s1 s2 s3 Hl lcl hP hS ls hl
              refine lv_iload hx hb dX5_put_76 (lv_at hl 5 rfl) ?_
              refine lv_iload hx hb dX5_put_78 (lv_at hl 4 rfl) ?_
              refine lv_icmp_le (tgt := 178) hx hb dX5_put_80 (by decide) (fun c80 => ?_) (fun c80 => ?_)
              · have c80 := (nI_leI (by omega) (by omega)).mp c80
                refine lv_aload_n hx hb dX5_put_178 rfl (lv_at hl 0 rfl) ?_
                refine g_get hC hP hm.1 rfl inX5 9 (by decide) q3_15 hm.2.2.2.2.2.2.2.1.1 dX5_put_179 ?_
                refine lv_iload_n hx hb dX5_put_182 rfl (lv_at hl 1 rfl) ?_
                refine lv_dup2_11 hx hb dX5_put_183 rfl rfl ?_
                refine g_iald hC hP hm.2.2.2.2.2.2.2.1.2 (vp_in_nI (by omega) (by decide)) dX5_put_184 ?_
                refine g_topi (y := nI C.1) (by rw [s1 _ (by omega) (by omega)]; exact hcr.1) ?_
                refine lv_iconst (v := nI 1) hx hb dX5_put_185 (by decide) ?_
                refine lv_iadd hx hb dX5_put_186 ?_
                refine g_topi (y := nI (C.1 + 1)) (nI_add _ _) ?_
                refine g_iast hC hP hS hTA hm.2.2.2.2.2.2.2.1.2 (vp_in_nI (by omega) (by decide)) dX5_put_187 (fun H1 locs2 hP hS hz4 => ?_)
                rw [show (nI 0).toNatClampNeg = 0 from nI_clamp (by omega)] at hP
                obtain ⟨I3, hI3, hP⟩ : ∃ X : gI, X = au I9 (h + 7) 0 (nI (C.1 + 1)) ∧ gP G T X J9 Q O H1 := ⟨_, rfl, hP⟩
                have eb : b = a := by omega
                rw [eb] at s3
                refine lv_aload_n hx hb dX5_put_188 rfl (lv_at hl 0 rfl) ?_
                refine g_get hC hP hm.1 rfl inX5 11 (by decide) q3_17 hm.2.2.2.2.2.2.2.2.2.1.1 dX5_put_189 ?_
                refine lv_iload hx hb dX5_put_192 (lv_at hl 4 rfl) ?_
                refine lv_aload_n hx hb dX5_put_194 rfl (lv_at hl 0 rfl) ?_
                refine g_get hC hP hm.1 rfl inX5 17 (by decide) q3_23 hm.2.2.2.2.2.2.2.2.2.2.2.2.2.2.2.1.1 dX5_put_195 ?_
                refine lv_iconst (v := nI 0) hx hb dX5_put_198 (by decide) ?_
                refine g_lald hC hP hm.2.2.2.2.2.2.2.2.2.2.2.2.2.2.2.1.2 (vp_in_nI (by omega) (by decide)) dX5_put_199 ?_
                refine g_topl (y := J (h + 15) 0) (by rw [s2 _ (by omega) (by omega)]; rfl) ?_
                refine lv_aload_n hx hb dX5_put_200 rfl (lv_at hl 0 rfl) ?_
                refine g_get hC hP hm.1 rfl inX5 17 (by decide) q3_23 hm.2.2.2.2.2.2.2.2.2.2.2.2.2.2.2.1.1 dX5_put_201 ?_
                refine lv_iconst (v := nI 1) hx hb dX5_put_204 (by decide) ?_
                refine g_lald hC hP hm.2.2.2.2.2.2.2.2.2.2.2.2.2.2.2.1.2 (vp_in_nI (by omega) (by decide)) dX5_put_205 ?_
                refine g_topl (y := J (h + 15) 1) (by rw [s2 _ (by omega) (by omega)]; rfl) ?_
                refine lv_ladd hx hb dX5_put_206 ?_
                refine lv_aload_n hx hb dX5_put_207 rfl (lv_at hl 0 rfl) ?_
                refine g_get hC hP hm.1 rfl inX5 17 (by decide) q3_23 hm.2.2.2.2.2.2.2.2.2.2.2.2.2.2.2.1.1 dX5_put_208 ?_
                refine lv_iconst (v := nI 2) hx hb dX5_put_211 (by decide) ?_
                refine g_lald hC hP hm.2.2.2.2.2.2.2.2.2.2.2.2.2.2.2.1.2 (vp_in_nI (by omega) (by decide)) dX5_put_212 ?_
                refine g_topl (y := J (h + 15) 2) (by rw [s2 _ (by omega) (by omega)]; rfl) ?_
                refine lv_ladd hx hb dX5_put_213 ?_
                refine lv_aload_n hx hb dX5_put_214 rfl (lv_at hl 0 rfl) ?_
                refine g_get hC hP hm.1 rfl inX5 17 (by decide) q3_23 hm.2.2.2.2.2.2.2.2.2.2.2.2.2.2.2.1.1 dX5_put_215 ?_
                refine lv_iconst (v := nI 3) hx hb dX5_put_218 (by decide) ?_
                refine g_lald hC hP hm.2.2.2.2.2.2.2.2.2.2.2.2.2.2.2.1.2 (vp_in_nI (by omega) (by decide)) dX5_put_219 ?_
                refine g_topl (y := J (h + 15) 3) (by rw [s2 _ (by omega) (by omega)]; rfl) ?_
                refine lv_ladd hx hb dX5_put_220 ?_
                refine g_last hC hP hS hTA hm.2.2.2.2.2.2.2.2.2.1.2 (vp_in_nI (by omega) (by decide)) dX5_put_221 (fun H5 locs6 hP hS hz8 => ?_)
                rw [show (nI (80 * 0 + a)).toNatClampNeg = 80 * 0 + a from nI_clamp (by omega)] at hP
                obtain ⟨J7, hJ7, hP⟩ : ∃ X : gJ, X = au J9 (h + 9) (80 * 0 + a) ((((J (h + 15) 0) + (J (h + 15) 1)) + (J (h + 15) 2)) + (J (h + 15) 3)) ∧ gP G T I3 X Q O H5 := ⟨_, rfl, hP⟩
                refine lv_aload_n hx hb dX5_put_222 rfl (lv_at hl 0 rfl) ?_
                refine g_get hC hP hm.1 rfl inX5 12 (by decide) q3_18 hm.2.2.2.2.2.2.2.2.2.2.1.1 dX5_put_223 ?_
                refine lv_iload hx hb dX5_put_226 (lv_at hl 4 rfl) ?_
                refine lv_iload_n hx hb dX5_put_228 rfl (lv_at hl 2 rfl) ?_
                refine g_iast hC hP hS hTA hm.2.2.2.2.2.2.2.2.2.2.1.2 (vp_in_nI (by omega) (by decide)) dX5_put_229 (fun H9 locs10 hP hS hz12 => ?_)
                rw [show (nI (80 * 0 + a)).toNatClampNeg = 80 * 0 + a from nI_clamp (by omega)] at hP
                obtain ⟨I11, hI11, hP⟩ : ∃ X : gI, X = au I3 (h + 10) (80 * 0 + a) (nI ub) ∧ gP G T X J7 Q O H9 := ⟨_, rfl, hP⟩
                refine lv_aload_n hx hb dX5_put_230 rfl (lv_at hl 0 rfl) ?_
                refine g_get hC hP hm.1 rfl inX5 13 (by decide) q3_19 hm.2.2.2.2.2.2.2.2.2.2.2.1.1 dX5_put_231 ?_
                refine lv_iload hx hb dX5_put_234 (lv_at hl 4 rfl) ?_
                refine lv_iload_n hx hb dX5_put_236 rfl (lv_at hl 3 rfl) ?_
                refine g_iast hC hP hS hTA hm.2.2.2.2.2.2.2.2.2.2.2.1.2 (vp_in_nI (by omega) (by decide)) dX5_put_237 (fun H13 locs14 hP hS hz16 => ?_)
                rw [show (nI (80 * 0 + a)).toNatClampNeg = 80 * 0 + a from nI_clamp (by omega)] at hP
                obtain ⟨I15, hI15, hP⟩ : ∃ X : gI, X = au I11 (h + 11) (80 * 0 + a) (nI ab) ∧ gP G T X J7 Q O H13 := ⟨_, rfl, hP⟩
                refine lv_iconst (v := nI 0) hx hb dX5_put_238 (by decide) ?_
                refine lv_istore (lv' := [(5, .int (nI 0)), (0, .ref h), (1, .int (nI 0)), (2, .int (nI ub)), (3, .int (nI ab)), (4, .int (nI (80 * 0 + a)))]) hx hb dX5_put_239 hl (by decide) rfl (fun ls hl => ?_)
                have L241 : ∀ (n241 : Nat) (y2 : Nat) (Z2 : Nat → Int64) (J11 : gJ), 5 ≤ n241 + y2 → (y2 ≤ 4) → (J11 = gu J7 (h + 8) Z2) → (∀ i, Z2 i = if 4 * (80 * 0 + a) ≤ i ∧ i < 4 * (80 * 0 + a) + y2 then J (h + 15) (i - 4 * (80 * 0 + a)) else J9 (h + 8) i) → ∀ (Hl : Heap) (lcl : List Loc), gP G T I15 J11 Q O Hl → va_S A s.heap Hl lcl → ∀ ls : Array Slot, lv_has ls 7 [(0, .ref h), (1, .int (nI 0)), (2, .int (nI ub)), (3, .int (nI ab)), (4, .int (nI (80 * 0 + a))), (5, .int (nI y2))] → W p l e ({ frames := 1, cells := 0, slots := 0, locals := 28 } : Room) s m [.ref h, .int (nI 0), .int (nI ub), .int (nI ab)].toArray below meth c Hl lcl 0 0 (MQ below (gQc A (fun r H1 => r = none ∧ ∃ (I2 : gI) (J2 : gJ), gP G T I2 J2 Q O H1 ∧ crR I2 J2 h 0 (insC v C) ∧ crF I J I2 J2 h 0)) [.ref h, .int (nI 0), .int (nI ub), .int (nI ab)].toArray s 0 0 A) (F0 m 241 ls []) := by
                  intro n241
                  induction n241 with
                  | zero => intro y2 Z2 J11 hn241 hy2 v1 v2; exact absurd hn241 (by omega)
                  | succ n241 ih241 =>
                    intro y2 Z2 J11 hn241 hy2 v1 v2 Hl lcl hP hS ls hl
                    refine lv_iload hx hb dX5_put_241 (lv_at hl 5 rfl) ?_
                    refine lv_iconst (v := nI 4) hx hb dX5_put_243 (by decide) ?_
                    refine lv_icmp_ge (tgt := 272) hx hb dX5_put_244 (by decide) (fun c244 => ?_) (fun c244 => ?_)
                    · have c244 := (nI_leI (by omega) (by omega)).mp c244
                      refine g_retcv hC hS ?_ dX5_put_272
                      have ey : y2 = 4 := (by omega)
                      subst ey
                      exact ⟨rfl, _, _, hP, put_fin (by decide) hcr hrd (by omega) hc79 eu ea s1 s2 s3 (by rw [hI15, hI11, hI3]) (by rw [v1, hJ7]; rfl) v2 ei⟩
                    · have c244 := mt (nI_leI (by omega) (by omega)).mpr c244
                      refine lv_aload_n hx hb dX5_put_247 rfl (lv_at hl 0 rfl) ?_
                      refine g_get hC hP hm.1 rfl inX5 10 (by decide) q3_16 hm.2.2.2.2.2.2.2.2.1.1 dX5_put_248 ?_
                      refine lv_iconst (v := nI 4) hx hb dX5_put_251 (by decide) ?_
                      refine lv_iload hx hb dX5_put_252 (lv_at hl 4 rfl) ?_
                      refine lv_imul hx hb dX5_put_254 ?_
                      refine g_topi (y := nI (4 * (80 * 0 + a))) (nI_mul _ _) ?_
                      refine lv_iload hx hb dX5_put_255 (lv_at hl 5 rfl) ?_
                      refine lv_iadd hx hb dX5_put_257 ?_
                      refine g_topi (y := nI (4 * (80 * 0 + a) + y2)) (nI_add _ _) ?_
                      refine lv_aload_n hx hb dX5_put_258 rfl (lv_at hl 0 rfl) ?_
                      refine g_get hC hP hm.1 rfl inX5 17 (by decide) q3_23 hm.2.2.2.2.2.2.2.2.2.2.2.2.2.2.2.1.1 dX5_put_259 ?_
                      refine lv_iload hx hb dX5_put_262 (lv_at hl 5 rfl) ?_
                      refine g_lald hC hP hm.2.2.2.2.2.2.2.2.2.2.2.2.2.2.2.1.2 (vp_in_nI (by omega) (by decide)) dX5_put_264 ?_
                      refine g_topl (y := J (h + 15) y2) ((congrArg (J11 (h + 15)) (nI_clamp (by omega))).trans (by rw [v1, gu_ne _ _ (by omega), hJ7, au_ne _ _ _ (by omega), s2 _ (by omega) (by omega)])) ?_
                      refine g_last hC hP hS hTA hm.2.2.2.2.2.2.2.2.1.2 (vp_in_nI (by omega) (by decide)) dX5_put_265 (fun H17 locs18 hP hS hz20 => ?_)
                      rw [show (nI (4 * (80 * 0 + a) + y2)).toNatClampNeg = 4 * (80 * 0 + a) + y2 from nI_clamp (by omega)] at hP
                      obtain ⟨J19, hJ19, hP⟩ : ∃ X : gJ, X = au J11 (h + 8) (4 * (80 * 0 + a) + y2) (J (h + 15) y2) ∧ gP G T I15 X Q O H17 := ⟨_, rfl, hP⟩
                      refine lv_iinc (v := nI (y2 + 1)) (lv' := [(5, .int (nI (y2 + 1))), (0, .ref h), (1, .int (nI 0)), (2, .int (nI ub)), (3, .int (nI ab)), (4, .int (nI (80 * 0 + a)))]) hx hb dX5_put_266 hl (k := 5) rfl (nI_inc _) (by decide) rfl (fun ls hl => ?_)
                      refine lv_goto (tgt := 241) hx hb dX5_put_269 (by decide) ?_
                      exact ih241 (y2 + 1) (gu Z2 (4 * (80 * 0 + a) + y2) (J (h + 15) y2)) J19 (by omega) (by omega) (by rw [hJ19, v1, au_gu]) (z_t v2) _ _ hP hS ls (lv_sub hl [1, 2, 3, 4, 5, 0] rfl)
                exact L241 5 0 (J7 (h + 8)) J7 (by omega) (by omega) (gu_self _ _).symm (fun i => by rw [if_neg (by omega), hJ7, au_ne _ _ _ (by omega)]) _ _ hP hS ls (lv_sub hl [1, 2, 3, 4, 5, 0] rfl)
              · have c80 := mt (nI_leI (by omega) (by omega)).mpr c80
                refine lv_aload_n hx hb dX5_put_83 rfl (lv_at hl 0 rfl) ?_
                refine g_get hC hP hm.1 rfl inX5 11 (by decide) q3_17 hm.2.2.2.2.2.2.2.2.2.1.1 dX5_put_84 ?_
                refine lv_iload hx hb dX5_put_87 (lv_at hl 5 rfl) ?_
                refine lv_aload_n hx hb dX5_put_89 rfl (lv_at hl 0 rfl) ?_
                refine g_get hC hP hm.1 rfl inX5 11 (by decide) q3_17 hm.2.2.2.2.2.2.2.2.2.1.1 dX5_put_90 ?_
                refine lv_iload hx hb dX5_put_93 (lv_at hl 5 rfl) ?_
                refine lv_iconst (v := nI 1) hx hb dX5_put_95 (by decide) ?_
                refine lv_isub hx hb dX5_put_96 ?_
                refine g_topi (y := nI (80 * 0 + b - 1)) (nI_subn (by omega)) ?_
                refine g_lald hC hP hm.2.2.2.2.2.2.2.2.2.1.2 (vp_in_nI (by omega) (by decide)) dX5_put_97 ?_
                refine g_topl (y := J9 (h + 9) (80 * 0 + b - 1)) (congrArg (J9 (h + 9)) (nI_clamp (by omega))) ?_
                refine g_last hC hP hS hTA hm.2.2.2.2.2.2.2.2.2.1.2 (vp_in_nI (by omega) (by decide)) dX5_put_98 (fun H21 locs22 hP hS hz24 => ?_)
                rw [show (nI (80 * 0 + b)).toNatClampNeg = 80 * 0 + b from nI_clamp (by omega)] at hP
                obtain ⟨J23, hJ23, hP⟩ : ∃ X : gJ, X = au J9 (h + 9) (80 * 0 + b) (J9 (h + 9) (80 * 0 + b - 1)) ∧ gP G T I9 X Q O H21 := ⟨_, rfl, hP⟩
                refine lv_aload_n hx hb dX5_put_99 rfl (lv_at hl 0 rfl) ?_
                refine g_get hC hP hm.1 rfl inX5 12 (by decide) q3_18 hm.2.2.2.2.2.2.2.2.2.2.1.1 dX5_put_100 ?_
                refine lv_iload hx hb dX5_put_103 (lv_at hl 5 rfl) ?_
                refine lv_aload_n hx hb dX5_put_105 rfl (lv_at hl 0 rfl) ?_
                refine g_get hC hP hm.1 rfl inX5 12 (by decide) q3_18 hm.2.2.2.2.2.2.2.2.2.2.1.1 dX5_put_106 ?_
                refine lv_iload hx hb dX5_put_109 (lv_at hl 5 rfl) ?_
                refine lv_iconst (v := nI 1) hx hb dX5_put_111 (by decide) ?_
                refine lv_isub hx hb dX5_put_112 ?_
                refine g_topi (y := nI (80 * 0 + b - 1)) (nI_subn (by omega)) ?_
                refine g_iald hC hP hm.2.2.2.2.2.2.2.2.2.2.1.2 (vp_in_nI (by omega) (by decide)) dX5_put_113 ?_
                refine g_topi (y := I9 (h + 10) (80 * 0 + b - 1)) (congrArg (I9 (h + 10)) (nI_clamp (by omega))) ?_
                refine g_iast hC hP hS hTA hm.2.2.2.2.2.2.2.2.2.2.1.2 (vp_in_nI (by omega) (by decide)) dX5_put_114 (fun H25 locs26 hP hS hz28 => ?_)
                rw [show (nI (80 * 0 + b)).toNatClampNeg = 80 * 0 + b from nI_clamp (by omega)] at hP
                obtain ⟨I27, hI27, hP⟩ : ∃ X : gI, X = au I9 (h + 10) (80 * 0 + b) (I9 (h + 10) (80 * 0 + b - 1)) ∧ gP G T X J23 Q O H25 := ⟨_, rfl, hP⟩
                refine lv_aload_n hx hb dX5_put_115 rfl (lv_at hl 0 rfl) ?_
                refine g_get hC hP hm.1 rfl inX5 13 (by decide) q3_19 hm.2.2.2.2.2.2.2.2.2.2.2.1.1 dX5_put_116 ?_
                refine lv_iload hx hb dX5_put_119 (lv_at hl 5 rfl) ?_
                refine lv_aload_n hx hb dX5_put_121 rfl (lv_at hl 0 rfl) ?_
                refine g_get hC hP hm.1 rfl inX5 13 (by decide) q3_19 hm.2.2.2.2.2.2.2.2.2.2.2.1.1 dX5_put_122 ?_
                refine lv_iload hx hb dX5_put_125 (lv_at hl 5 rfl) ?_
                refine lv_iconst (v := nI 1) hx hb dX5_put_127 (by decide) ?_
                refine lv_isub hx hb dX5_put_128 ?_
                refine g_topi (y := nI (80 * 0 + b - 1)) (nI_subn (by omega)) ?_
                refine g_iald hC hP hm.2.2.2.2.2.2.2.2.2.2.2.1.2 (vp_in_nI (by omega) (by decide)) dX5_put_129 ?_
                refine g_topi (y := I27 (h + 11) (80 * 0 + b - 1)) (congrArg (I27 (h + 11)) (nI_clamp (by omega))) ?_
                refine g_iast hC hP hS hTA hm.2.2.2.2.2.2.2.2.2.2.2.1.2 (vp_in_nI (by omega) (by decide)) dX5_put_130 (fun H29 locs30 hP hS hz32 => ?_)
                rw [show (nI (80 * 0 + b)).toNatClampNeg = 80 * 0 + b from nI_clamp (by omega)] at hP
                obtain ⟨I31, hI31, hP⟩ : ∃ X : gI, X = au I27 (h + 11) (80 * 0 + b) (I27 (h + 11) (80 * 0 + b - 1)) ∧ gP G T X J23 Q O H29 := ⟨_, rfl, hP⟩
                refine lv_iconst (v := nI 0) hx hb dX5_put_131 (by decide) ?_
                refine lv_istore (lv' := [(6, .int (nI 0)), (0, .ref h), (1, .int (nI 0)), (2, .int (nI ub)), (3, .int (nI ab)), (4, .int (nI (80 * 0 + a))), (5, .int (nI (80 * 0 + b)))]) hx hb dX5_put_132 hl (by decide) rfl (fun ls hl => ?_)
                have L134 : ∀ (n134 : Nat) (y : Nat) (Z : Nat → Int64) (J10 : gJ), 5 ≤ n134 + y → (y ≤ 4) → (J10 = gu J23 (h + 8) Z) → (∀ i, Z i = if 4 * (80 * 0 + b) ≤ i ∧ i < 4 * (80 * 0 + b) + y then J23 (h + 8) (i - 4) else J23 (h + 8) i) → ∀ (Hl : Heap) (lcl : List Loc), gP G T I31 J10 Q O Hl → va_S A s.heap Hl lcl → ∀ ls : Array Slot, lv_has ls 7 [(0, .ref h), (1, .int (nI 0)), (2, .int (nI ub)), (3, .int (nI ab)), (4, .int (nI (80 * 0 + a))), (5, .int (nI (80 * 0 + b))), (6, .int (nI y))] → W p l e ({ frames := 1, cells := 0, slots := 0, locals := 28 } : Room) s m [.ref h, .int (nI 0), .int (nI ub), .int (nI ab)].toArray below meth c Hl lcl 0 0 (MQ below (gQc A (fun r H1 => r = none ∧ ∃ (I2 : gI) (J2 : gJ), gP G T I2 J2 Q O H1 ∧ crR I2 J2 h 0 (insC v C) ∧ crF I J I2 J2 h 0)) [.ref h, .int (nI 0), .int (nI ub), .int (nI ab)].toArray s 0 0 A) (F0 m 134 ls []) := by
                  intro n134
                  induction n134 with
                  | zero => intro y Z J10 hn134 hy t1 t2; exact absurd hn134 (by omega)
                  | succ n134 ih134 =>
                    intro y Z J10 hn134 hy t1 t2 Hl lcl hP hS ls hl
                    refine lv_iload hx hb dX5_put_134 (lv_at hl 6 rfl) ?_
                    refine lv_iconst (v := nI 4) hx hb dX5_put_136 (by decide) ?_
                    refine lv_icmp_ge (tgt := 172) hx hb dX5_put_137 (by decide) (fun c137 => ?_) (fun c137 => ?_)
                    · have c137 := (nI_leI (by omega) (by omega)).mp c137
                      have ey : y = 4 := by omega
                      rw [ey] at t2
                      have ns3 := row_s (h := h) (k := 80 * 0 + b) (hi := 80 * 0 + C.1) hJ23 hI27 hI31 t1 t2 (by omega) (by omega) s3
                      rw [show 80 * 0 + b - 1 = 80 * 0 + (b - 1) from by omega] at ns3
                      have ns1 : ∀ q, q ≠ h + 10 → q ≠ h + 11 → I31 q = I q := fun q q1 q2 => by rw [hI31, au_ne _ _ _ q2, hI27, au_ne _ _ _ q1]; exact s1 q q1 q2
                      have ns2 : ∀ q, q ≠ h + 8 → q ≠ h + 9 → J10 q = J q := fun q q1 q2 => by rw [t1, gu_ne _ _ q1, hJ23, au_ne _ _ _ q2]; exact s2 q q1 q2
                      refine lv_iinc (v := nI (80 * 0 + (b - 1))) (lv' := [(5, .int (nI (80 * 0 + (b - 1)))), (0, .ref h), (1, .int (nI 0)), (2, .int (nI ub)), (3, .int (nI ab)), (4, .int (nI (80 * 0 + a))), (6, .int (nI y))]) hx hb dX5_put_172 hl (k := 5) rfl ((nI_dec (by omega)).trans (congrArg nI (by omega))) (by decide) rfl (fun ls hl => ?_)
                      refine lv_goto (tgt := 76) hx hb dX5_put_175 (by decide) ?_
                      exact ih76 (b - 1) I31 J10 (by omega) (by omega) ns1 ns2 ns3 _ _ hP hS ls (lv_sub hl [1, 2, 3, 4, 5, 0] rfl)
                    · have c137 := mt (nI_leI (by omega) (by omega)).mpr c137
                      refine lv_aload_n hx hb dX5_put_140 rfl (lv_at hl 0 rfl) ?_
                      refine g_get hC hP hm.1 rfl inX5 10 (by decide) q3_16 hm.2.2.2.2.2.2.2.2.1.1 dX5_put_141 ?_
                      refine lv_iconst (v := nI 4) hx hb dX5_put_144 (by decide) ?_
                      refine lv_iload hx hb dX5_put_145 (lv_at hl 5 rfl) ?_
                      refine lv_imul hx hb dX5_put_147 ?_
                      refine g_topi (y := nI (4 * (80 * 0 + b))) (nI_mul _ _) ?_
                      refine lv_iload hx hb dX5_put_148 (lv_at hl 6 rfl) ?_
                      refine lv_iadd hx hb dX5_put_150 ?_
                      refine g_topi (y := nI (4 * (80 * 0 + b) + y)) (nI_add _ _) ?_
                      refine lv_aload_n hx hb dX5_put_151 rfl (lv_at hl 0 rfl) ?_
                      refine g_get hC hP hm.1 rfl inX5 10 (by decide) q3_16 hm.2.2.2.2.2.2.2.2.1.1 dX5_put_152 ?_
                      refine lv_iconst (v := nI 4) hx hb dX5_put_155 (by decide) ?_
                      refine lv_iload hx hb dX5_put_156 (lv_at hl 5 rfl) ?_
                      refine lv_imul hx hb dX5_put_158 ?_
                      refine g_topi (y := nI (4 * (80 * 0 + b))) (nI_mul _ _) ?_
                      refine lv_iconst (v := nI 4) hx hb dX5_put_159 (by decide) ?_
                      refine lv_isub hx hb dX5_put_160 ?_
                      refine g_topi (y := nI (4 * (80 * 0 + b) - 4)) (nI_subn (by omega)) ?_
                      refine lv_iload hx hb dX5_put_161 (lv_at hl 6 rfl) ?_
                      refine lv_iadd hx hb dX5_put_163 ?_
                      refine g_topi (y := nI (4 * (80 * 0 + b) - 4 + y)) (nI_add _ _) ?_
                      refine g_lald hC hP hm.2.2.2.2.2.2.2.2.1.2 (vp_in_nI (by omega) (by decide)) dX5_put_164 ?_
                      refine g_topl (y := J23 (h + 8) (4 * (80 * 0 + b) - 4 + y)) ((congrArg (J10 (h + 8)) (nI_clamp (by omega))).trans (by rw [t1, gu_eq, t2, if_neg (by omega)])) ?_
                      refine g_last hC hP hS hTA hm.2.2.2.2.2.2.2.2.1.2 (vp_in_nI (by omega) (by decide)) dX5_put_165 (fun H33 locs34 hP hS hz36 => ?_)
                      rw [show (nI (4 * (80 * 0 + b) + y)).toNatClampNeg = 4 * (80 * 0 + b) + y from nI_clamp (by omega)] at hP
                      obtain ⟨J35, hJ35, hP⟩ : ∃ X : gJ, X = au J10 (h + 8) (4 * (80 * 0 + b) + y) (J23 (h + 8) (4 * (80 * 0 + b) - 4 + y)) ∧ gP G T I31 X Q O H33 := ⟨_, rfl, hP⟩
                      refine lv_iinc (v := nI (y + 1)) (lv' := [(6, .int (nI (y + 1))), (0, .ref h), (1, .int (nI 0)), (2, .int (nI ub)), (3, .int (nI ab)), (4, .int (nI (80 * 0 + a))), (5, .int (nI (80 * 0 + b)))]) hx hb dX5_put_166 hl (k := 6) rfl (nI_inc _) (by decide) rfl (fun ls hl => ?_)
                      refine lv_goto (tgt := 134) hx hb dX5_put_169 (by decide) ?_
                      exact ih134 (y + 1) (gu Z (4 * (80 * 0 + b) + y) (J23 (h + 8) (4 * (80 * 0 + b) - 4 + y))) J35 (by omega) (by omega) (by rw [hJ35, t1, au_gu]) (z_s (by omega) t2) _ _ hP hS ls (lv_sub hl [1, 2, 3, 4, 5, 6, 0] rfl)
                exact L134 5 0 (J23 (h + 8)) J23 (by omega) (by omega) (gu_self _ _).symm (fun i => (if_neg (by omega)).symm) _ _ hP hS ls (lv_sub hl [1, 2, 3, 4, 5, 6, 0] rfl)
          exact L76 (C.1 + 1) C.1 I J (by omega) (by omega) (fun q _ _ => rfl) (fun q _ _ => rfl) (fun x => by rw [if_neg (by omega)]; exact rowI_rf I J h x) _ _ hP hS ls (lv_sub hl [1, 2, 3, 4, 5, 0] rfl)
        · have c50 := mt (nI_leI (by omega) (by omega)).mpr c50
          exact absurd c50 (by omega)
      · have c19 := mt (nI_leI (by omega) (by omega)).mpr c19
        refine lv_aload_n hx hb dX5_put_22 rfl (lv_at hl 0 rfl) ?_
        refine lv_iload hx hb dX5_put_23 (lv_at hl 4 rfl) ?_
        refine g_cp (g_rV (As := [.int (nI (80 * 0 + a))]) hC hP (c_X5_ahead l hP (h := h) (ap := 80 * 0 + a) (by first | assumption | omega) (by first | assumption | omega)) hm.1 rfl ⟨q3_209, q3_206, q3_208, qs_42, q1_6⟩ dd_X5_ahead ⟨Nat.le_of_ble_eq_true rfl, Nat.le_of_ble_eq_true rfl, rfl, rfl⟩ hl.1 rfl (Nat.le_of_ble_eq_true rfl) dX5_put_25 ⟨Nat.le_of_ble_eq_true rfl, Nat.le_of_ble_eq_true rfl⟩) ?_
        refine W.eq (g2 := F0 m 28 ls [.int (aheadF (J (h + 15)) (fun k => J (h + 8) (4 * (80 * 0 + a) + k)) (J (h + 9) (80 * 0 + a)))]) rfl ?_
        have ha9 : a < C.1 := by omega
        refine g_topi (y := -(ordV v (C.2 a))) (ah_ord hv (hcg a ha9) hrd (hcr.2 a ha9).1) ?_
        refine lv_if_ge (tgt := 37) hx hb dX5_put_28 (by decide) (fun c28 => ?_) (fun c28 => ?_)
        · have c28 := ord_ge c28
          refine lv_iload hx hb dX5_put_37 (lv_at hl 4 rfl) ?_
          refine lv_bipush (v := nI 80) hx hb dX5_put_39 (by decide) ?_
          refine lv_iload_n hx hb dX5_put_41 rfl (lv_at hl 1 rfl) ?_
          refine lv_imul hx hb dX5_put_42 ?_
          refine g_topi (y := nI (80 * 0)) (nI_mul _ _) ?_
          refine lv_aload_n hx hb dX5_put_43 rfl (lv_at hl 0 rfl) ?_
          refine g_get hC hP hm.1 rfl inX5 9 (by decide) q3_15 hm.2.2.2.2.2.2.2.1.1 dX5_put_44 ?_
          refine lv_iload_n hx hb dX5_put_47 rfl (lv_at hl 1 rfl) ?_
          refine g_iald hC hP hm.2.2.2.2.2.2.2.1.2 (vp_in_nI (by omega) (by decide)) dX5_put_48 ?_
          refine g_topi (y := nI C.1) hcr.1 ?_
          refine lv_iadd hx hb dX5_put_49 ?_
          refine g_topi (y := nI (80 * 0 + C.1)) (nI_add _ _) ?_
          refine lv_icmp_ge (tgt := 63) hx hb dX5_put_50 (by decide) (fun c50 => ?_) (fun c50 => ?_)
          · have c50 := (nI_leI (by omega) (by omega)).mp c50
            exact absurd c50 (by omega)
          · have c50 := mt (nI_leI (by omega) (by omega)).mpr c50
            refine lv_aload_n hx hb dX5_put_53 rfl (lv_at hl 0 rfl) ?_
            refine lv_iload hx hb dX5_put_54 (lv_at hl 4 rfl) ?_
            refine g_cp (g_rV (As := [.int (nI (80 * 0 + a))]) hC hP (c_X5_ahead l hP (h := h) (ap := 80 * 0 + a) (by first | assumption | omega) (by first | assumption | omega)) hm.1 rfl ⟨q3_209, q3_206, q3_208, qs_42, q1_6⟩ dd_X5_ahead ⟨Nat.le_of_ble_eq_true rfl, Nat.le_of_ble_eq_true rfl, rfl, rfl⟩ hl.1 rfl (Nat.le_of_ble_eq_true rfl) dX5_put_56 ⟨Nat.le_of_ble_eq_true rfl, Nat.le_of_ble_eq_true rfl⟩) ?_
            refine W.eq (g2 := F0 m 59 ls [.int (aheadF (J (h + 15)) (fun k => J (h + 8) (4 * (80 * 0 + a) + k)) (J (h + 9) (80 * 0 + a)))]) rfl ?_
            have ha9 : a < C.1 := by omega
            refine g_topi (y := -(ordV v (C.2 a))) (ah_ord hv (hcg a ha9) hrd (hcr.2 a ha9).1) ?_
            refine lv_if_ne (tgt := 63) hx hb dX5_put_59 (by decide) (fun c59 => ?_) (fun c59 => ?_)
            · have h2 : a < C.1 → ordV v (C.2 a) < 0 := fun _ => ord_lt0 c28 c59
              obtain ⟨ei, es⟩ := ins_new hv hcg hsr (by omega) h1 h2
              refine lv_bipush (v := nI 80) hx hb dX5_put_63 (by decide) ?_
              refine lv_iload_n hx hb dX5_put_65 rfl (lv_at hl 1 rfl) ?_
              refine lv_imul hx hb dX5_put_66 ?_
              refine g_topi (y := nI (80 * 0)) (nI_mul _ _) ?_
              refine lv_aload_n hx hb dX5_put_67 rfl (lv_at hl 0 rfl) ?_
              refine g_get hC hP hm.1 rfl inX5 9 (by decide) q3_15 hm.2.2.2.2.2.2.2.1.1 dX5_put_68 ?_
              refine lv_iload_n hx hb dX5_put_71 rfl (lv_at hl 1 rfl) ?_
              refine g_iald hC hP hm.2.2.2.2.2.2.2.1.2 (vp_in_nI (by omega) (by decide)) dX5_put_72 ?_
              refine g_topi (y := nI C.1) hcr.1 ?_
              refine lv_iadd hx hb dX5_put_73 ?_
              refine g_topi (y := nI (80 * 0 + C.1)) (nI_add _ _) ?_
              refine lv_istore (lv' := [(5, .int (nI (80 * 0 + C.1))), (0, .ref h), (1, .int (nI 0)), (2, .int (nI ub)), (3, .int (nI ab)), (4, .int (nI (80 * 0 + a)))]) hx hb dX5_put_74 hl (by decide) rfl (fun ls hl => ?_)
              have L76 : ∀ (n76 : Nat) (b : Nat) (I9 : gI) (J9 : gJ), b + 1 ≤ n76 → (a ≤ b ∧ b ≤ C.1) → (∀ q, q ≠ h + 10 → q ≠ h + 11 → I9 q = I q) → (∀ q, q ≠ h + 8 → q ≠ h + 9 → J9 q = J q) → (shS I9 J9 I J h (80 * 0 + b) (80 * 0 + C.1)) → ∀ (Hl : Heap) (lcl : List Loc), gP G T I9 J9 Q O Hl → va_S A s.heap Hl lcl → ∀ ls : Array Slot, lv_has ls 7 [(0, .ref h), (1, .int (nI 0)), (2, .int (nI ub)), (3, .int (nI ab)), (4, .int (nI (80 * 0 + a))), (5, .int (nI (80 * 0 + b)))] → W p l e ({ frames := 1, cells := 0, slots := 0, locals := 28 } : Room) s m [.ref h, .int (nI 0), .int (nI ub), .int (nI ab)].toArray below meth c Hl lcl 0 0 (MQ below (gQc A (fun r H1 => r = none ∧ ∃ (I2 : gI) (J2 : gJ), gP G T I2 J2 Q O H1 ∧ crR I2 J2 h 0 (insC v C) ∧ crF I J I2 J2 h 0)) [.ref h, .int (nI 0), .int (nI ub), .int (nI ab)].toArray s 0 0 A) (F0 m 76 ls []) := by
                intro n76
                induction n76 with
                | zero => intro b I9 J9 hn76 hb2 s1 s2 s3; exact absurd hn76 (by omega)
                | succ n76 ih76 =>
                  intro b I9 J9 hn76 hb2 s1 s2 s3 Hl lcl hP hS ls hl
                  refine lv_iload hx hb dX5_put_76 (lv_at hl 5 rfl) ?_
                  refine lv_iload hx hb dX5_put_78 (lv_at hl 4 rfl) ?_
                  refine lv_icmp_le (tgt := 178) hx hb dX5_put_80 (by decide) (fun c80 => ?_) (fun c80 => ?_)
                  · have c80 := (nI_leI (by omega) (by omega)).mp c80
                    refine lv_aload_n hx hb dX5_put_178 rfl (lv_at hl 0 rfl) ?_
                    refine g_get hC hP hm.1 rfl inX5 9 (by decide) q3_15 hm.2.2.2.2.2.2.2.1.1 dX5_put_179 ?_
                    refine lv_iload_n hx hb dX5_put_182 rfl (lv_at hl 1 rfl) ?_
                    refine lv_dup2_11 hx hb dX5_put_183 rfl rfl ?_
                    refine g_iald hC hP hm.2.2.2.2.2.2.2.1.2 (vp_in_nI (by omega) (by decide)) dX5_put_184 ?_
                    refine g_topi (y := nI C.1) (by rw [s1 _ (by omega) (by omega)]; exact hcr.1) ?_
                    refine lv_iconst (v := nI 1) hx hb dX5_put_185 (by decide) ?_
                    refine lv_iadd hx hb dX5_put_186 ?_
                    refine g_topi (y := nI (C.1 + 1)) (nI_add _ _) ?_
                    refine g_iast hC hP hS hTA hm.2.2.2.2.2.2.2.1.2 (vp_in_nI (by omega) (by decide)) dX5_put_187 (fun H37 locs38 hP hS hz40 => ?_)
                    rw [show (nI 0).toNatClampNeg = 0 from nI_clamp (by omega)] at hP
                    obtain ⟨I39, hI39, hP⟩ : ∃ X : gI, X = au I9 (h + 7) 0 (nI (C.1 + 1)) ∧ gP G T X J9 Q O H37 := ⟨_, rfl, hP⟩
                    have eb : b = a := by omega
                    rw [eb] at s3
                    refine lv_aload_n hx hb dX5_put_188 rfl (lv_at hl 0 rfl) ?_
                    refine g_get hC hP hm.1 rfl inX5 11 (by decide) q3_17 hm.2.2.2.2.2.2.2.2.2.1.1 dX5_put_189 ?_
                    refine lv_iload hx hb dX5_put_192 (lv_at hl 4 rfl) ?_
                    refine lv_aload_n hx hb dX5_put_194 rfl (lv_at hl 0 rfl) ?_
                    refine g_get hC hP hm.1 rfl inX5 17 (by decide) q3_23 hm.2.2.2.2.2.2.2.2.2.2.2.2.2.2.2.1.1 dX5_put_195 ?_
                    refine lv_iconst (v := nI 0) hx hb dX5_put_198 (by decide) ?_
                    refine g_lald hC hP hm.2.2.2.2.2.2.2.2.2.2.2.2.2.2.2.1.2 (vp_in_nI (by omega) (by decide)) dX5_put_199 ?_
                    refine g_topl (y := J (h + 15) 0) (by rw [s2 _ (by omega) (by omega)]; rfl) ?_
                    refine lv_aload_n hx hb dX5_put_200 rfl (lv_at hl 0 rfl) ?_
                    refine g_get hC hP hm.1 rfl inX5 17 (by decide) q3_23 hm.2.2.2.2.2.2.2.2.2.2.2.2.2.2.2.1.1 dX5_put_201 ?_
                    refine lv_iconst (v := nI 1) hx hb dX5_put_204 (by decide) ?_
                    refine g_lald hC hP hm.2.2.2.2.2.2.2.2.2.2.2.2.2.2.2.1.2 (vp_in_nI (by omega) (by decide)) dX5_put_205 ?_
                    refine g_topl (y := J (h + 15) 1) (by rw [s2 _ (by omega) (by omega)]; rfl) ?_
                    refine lv_ladd hx hb dX5_put_206 ?_
                    refine lv_aload_n hx hb dX5_put_207 rfl (lv_at hl 0 rfl) ?_
                    refine g_get hC hP hm.1 rfl inX5 17 (by decide) q3_23 hm.2.2.2.2.2.2.2.2.2.2.2.2.2.2.2.1.1 dX5_put_208 ?_
                    refine lv_iconst (v := nI 2) hx hb dX5_put_211 (by decide) ?_
                    refine g_lald hC hP hm.2.2.2.2.2.2.2.2.2.2.2.2.2.2.2.1.2 (vp_in_nI (by omega) (by decide)) dX5_put_212 ?_
                    refine g_topl (y := J (h + 15) 2) (by rw [s2 _ (by omega) (by omega)]; rfl) ?_
                    refine lv_ladd hx hb dX5_put_213 ?_
                    refine lv_aload_n hx hb dX5_put_214 rfl (lv_at hl 0 rfl) ?_
                    refine g_get hC hP hm.1 rfl inX5 17 (by decide) q3_23 hm.2.2.2.2.2.2.2.2.2.2.2.2.2.2.2.1.1 dX5_put_215 ?_
                    refine lv_iconst (v := nI 3) hx hb dX5_put_218 (by decide) ?_
                    refine g_lald hC hP hm.2.2.2.2.2.2.2.2.2.2.2.2.2.2.2.1.2 (vp_in_nI (by omega) (by decide)) dX5_put_219 ?_
                    refine g_topl (y := J (h + 15) 3) (by rw [s2 _ (by omega) (by omega)]; rfl) ?_
                    refine lv_ladd hx hb dX5_put_220 ?_
                    refine g_last hC hP hS hTA hm.2.2.2.2.2.2.2.2.2.1.2 (vp_in_nI (by omega) (by decide)) dX5_put_221 (fun H41 locs42 hP hS hz44 => ?_)
                    rw [show (nI (80 * 0 + a)).toNatClampNeg = 80 * 0 + a from nI_clamp (by omega)] at hP
                    obtain ⟨J43, hJ43, hP⟩ : ∃ X : gJ, X = au J9 (h + 9) (80 * 0 + a) ((((J (h + 15) 0) + (J (h + 15) 1)) + (J (h + 15) 2)) + (J (h + 15) 3)) ∧ gP G T I39 X Q O H41 := ⟨_, rfl, hP⟩
                    refine lv_aload_n hx hb dX5_put_222 rfl (lv_at hl 0 rfl) ?_
                    refine g_get hC hP hm.1 rfl inX5 12 (by decide) q3_18 hm.2.2.2.2.2.2.2.2.2.2.1.1 dX5_put_223 ?_
                    refine lv_iload hx hb dX5_put_226 (lv_at hl 4 rfl) ?_
                    refine lv_iload_n hx hb dX5_put_228 rfl (lv_at hl 2 rfl) ?_
                    refine g_iast hC hP hS hTA hm.2.2.2.2.2.2.2.2.2.2.1.2 (vp_in_nI (by omega) (by decide)) dX5_put_229 (fun H45 locs46 hP hS hz48 => ?_)
                    rw [show (nI (80 * 0 + a)).toNatClampNeg = 80 * 0 + a from nI_clamp (by omega)] at hP
                    obtain ⟨I47, hI47, hP⟩ : ∃ X : gI, X = au I39 (h + 10) (80 * 0 + a) (nI ub) ∧ gP G T X J43 Q O H45 := ⟨_, rfl, hP⟩
                    refine lv_aload_n hx hb dX5_put_230 rfl (lv_at hl 0 rfl) ?_
                    refine g_get hC hP hm.1 rfl inX5 13 (by decide) q3_19 hm.2.2.2.2.2.2.2.2.2.2.2.1.1 dX5_put_231 ?_
                    refine lv_iload hx hb dX5_put_234 (lv_at hl 4 rfl) ?_
                    refine lv_iload_n hx hb dX5_put_236 rfl (lv_at hl 3 rfl) ?_
                    refine g_iast hC hP hS hTA hm.2.2.2.2.2.2.2.2.2.2.2.1.2 (vp_in_nI (by omega) (by decide)) dX5_put_237 (fun H49 locs50 hP hS hz52 => ?_)
                    rw [show (nI (80 * 0 + a)).toNatClampNeg = 80 * 0 + a from nI_clamp (by omega)] at hP
                    obtain ⟨I51, hI51, hP⟩ : ∃ X : gI, X = au I47 (h + 11) (80 * 0 + a) (nI ab) ∧ gP G T X J43 Q O H49 := ⟨_, rfl, hP⟩
                    refine lv_iconst (v := nI 0) hx hb dX5_put_238 (by decide) ?_
                    refine lv_istore (lv' := [(5, .int (nI 0)), (0, .ref h), (1, .int (nI 0)), (2, .int (nI ub)), (3, .int (nI ab)), (4, .int (nI (80 * 0 + a)))]) hx hb dX5_put_239 hl (by decide) rfl (fun ls hl => ?_)
                    have L241 : ∀ (n241 : Nat) (y2 : Nat) (Z2 : Nat → Int64) (J11 : gJ), 5 ≤ n241 + y2 → (y2 ≤ 4) → (J11 = gu J43 (h + 8) Z2) → (∀ i, Z2 i = if 4 * (80 * 0 + a) ≤ i ∧ i < 4 * (80 * 0 + a) + y2 then J (h + 15) (i - 4 * (80 * 0 + a)) else J9 (h + 8) i) → ∀ (Hl : Heap) (lcl : List Loc), gP G T I51 J11 Q O Hl → va_S A s.heap Hl lcl → ∀ ls : Array Slot, lv_has ls 7 [(0, .ref h), (1, .int (nI 0)), (2, .int (nI ub)), (3, .int (nI ab)), (4, .int (nI (80 * 0 + a))), (5, .int (nI y2))] → W p l e ({ frames := 1, cells := 0, slots := 0, locals := 28 } : Room) s m [.ref h, .int (nI 0), .int (nI ub), .int (nI ab)].toArray below meth c Hl lcl 0 0 (MQ below (gQc A (fun r H1 => r = none ∧ ∃ (I2 : gI) (J2 : gJ), gP G T I2 J2 Q O H1 ∧ crR I2 J2 h 0 (insC v C) ∧ crF I J I2 J2 h 0)) [.ref h, .int (nI 0), .int (nI ub), .int (nI ab)].toArray s 0 0 A) (F0 m 241 ls []) := by
                      intro n241
                      induction n241 with
                      | zero => intro y2 Z2 J11 hn241 hy2 v1 v2; exact absurd hn241 (by omega)
                      | succ n241 ih241 =>
                        intro y2 Z2 J11 hn241 hy2 v1 v2 Hl lcl hP hS ls hl
                        refine lv_iload hx hb dX5_put_241 (lv_at hl 5 rfl) ?_
                        refine lv_iconst (v := nI 4) hx hb dX5_put_243 (by decide) ?_
                        refine lv_icmp_ge (tgt := 272) hx hb dX5_put_244 (by decide) (fun c244 => ?_) (fun c244 => ?_)
                        · have c244 := (nI_leI (by omega) (by omega)).mp c244
                          refine g_retcv hC hS ?_ dX5_put_272
                          have ey : y2 = 4 := (by omega)
                          subst ey
                          exact ⟨rfl, _, _, hP, put_fin (by decide) hcr hrd (by omega) hc79 eu ea s1 s2 s3 (by rw [hI51, hI47, hI39]) (by rw [v1, hJ43]; rfl) v2 ei⟩
                        · have c244 := mt (nI_leI (by omega) (by omega)).mpr c244
                          refine lv_aload_n hx hb dX5_put_247 rfl (lv_at hl 0 rfl) ?_
                          refine g_get hC hP hm.1 rfl inX5 10 (by decide) q3_16 hm.2.2.2.2.2.2.2.2.1.1 dX5_put_248 ?_
                          refine lv_iconst (v := nI 4) hx hb dX5_put_251 (by decide) ?_
                          refine lv_iload hx hb dX5_put_252 (lv_at hl 4 rfl) ?_
                          refine lv_imul hx hb dX5_put_254 ?_
                          refine g_topi (y := nI (4 * (80 * 0 + a))) (nI_mul _ _) ?_
                          refine lv_iload hx hb dX5_put_255 (lv_at hl 5 rfl) ?_
                          refine lv_iadd hx hb dX5_put_257 ?_
                          refine g_topi (y := nI (4 * (80 * 0 + a) + y2)) (nI_add _ _) ?_
                          refine lv_aload_n hx hb dX5_put_258 rfl (lv_at hl 0 rfl) ?_
                          refine g_get hC hP hm.1 rfl inX5 17 (by decide) q3_23 hm.2.2.2.2.2.2.2.2.2.2.2.2.2.2.2.1.1 dX5_put_259 ?_
                          refine lv_iload hx hb dX5_put_262 (lv_at hl 5 rfl) ?_
                          refine g_lald hC hP hm.2.2.2.2.2.2.2.2.2.2.2.2.2.2.2.1.2 (vp_in_nI (by omega) (by decide)) dX5_put_264 ?_
                          refine g_topl (y := J (h + 15) y2) ((congrArg (J11 (h + 15)) (nI_clamp (by omega))).trans (by rw [v1, gu_ne _ _ (by omega), hJ43, au_ne _ _ _ (by omega), s2 _ (by omega) (by omega)])) ?_
                          refine g_last hC hP hS hTA hm.2.2.2.2.2.2.2.2.1.2 (vp_in_nI (by omega) (by decide)) dX5_put_265 (fun H53 locs54 hP hS hz56 => ?_)
                          rw [show (nI (4 * (80 * 0 + a) + y2)).toNatClampNeg = 4 * (80 * 0 + a) + y2 from nI_clamp (by omega)] at hP
                          obtain ⟨J55, hJ55, hP⟩ : ∃ X : gJ, X = au J11 (h + 8) (4 * (80 * 0 + a) + y2) (J (h + 15) y2) ∧ gP G T I51 X Q O H53 := ⟨_, rfl, hP⟩
                          refine lv_iinc (v := nI (y2 + 1)) (lv' := [(5, .int (nI (y2 + 1))), (0, .ref h), (1, .int (nI 0)), (2, .int (nI ub)), (3, .int (nI ab)), (4, .int (nI (80 * 0 + a)))]) hx hb dX5_put_266 hl (k := 5) rfl (nI_inc _) (by decide) rfl (fun ls hl => ?_)
                          refine lv_goto (tgt := 241) hx hb dX5_put_269 (by decide) ?_
                          exact ih241 (y2 + 1) (gu Z2 (4 * (80 * 0 + a) + y2) (J (h + 15) y2)) J55 (by omega) (by omega) (by rw [hJ55, v1, au_gu]) (z_t v2) _ _ hP hS ls (lv_sub hl [1, 2, 3, 4, 5, 0] rfl)
                    exact L241 5 0 (J43 (h + 8)) J43 (by omega) (by omega) (gu_self _ _).symm (fun i => by rw [if_neg (by omega), hJ43, au_ne _ _ _ (by omega)]) _ _ hP hS ls (lv_sub hl [1, 2, 3, 4, 5, 0] rfl)
                  · have c80 := mt (nI_leI (by omega) (by omega)).mpr c80
                    refine lv_aload_n hx hb dX5_put_83 rfl (lv_at hl 0 rfl) ?_
                    refine g_get hC hP hm.1 rfl inX5 11 (by decide) q3_17 hm.2.2.2.2.2.2.2.2.2.1.1 dX5_put_84 ?_
                    refine lv_iload hx hb dX5_put_87 (lv_at hl 5 rfl) ?_
                    refine lv_aload_n hx hb dX5_put_89 rfl (lv_at hl 0 rfl) ?_
                    refine g_get hC hP hm.1 rfl inX5 11 (by decide) q3_17 hm.2.2.2.2.2.2.2.2.2.1.1 dX5_put_90 ?_
                    refine lv_iload hx hb dX5_put_93 (lv_at hl 5 rfl) ?_
                    refine lv_iconst (v := nI 1) hx hb dX5_put_95 (by decide) ?_
                    refine lv_isub hx hb dX5_put_96 ?_
                    refine g_topi (y := nI (80 * 0 + b - 1)) (nI_subn (by omega)) ?_
                    refine g_lald hC hP hm.2.2.2.2.2.2.2.2.2.1.2 (vp_in_nI (by omega) (by decide)) dX5_put_97 ?_
                    refine g_topl (y := J9 (h + 9) (80 * 0 + b - 1)) (congrArg (J9 (h + 9)) (nI_clamp (by omega))) ?_
                    refine g_last hC hP hS hTA hm.2.2.2.2.2.2.2.2.2.1.2 (vp_in_nI (by omega) (by decide)) dX5_put_98 (fun H57 locs58 hP hS hz60 => ?_)
                    rw [show (nI (80 * 0 + b)).toNatClampNeg = 80 * 0 + b from nI_clamp (by omega)] at hP
                    obtain ⟨J59, hJ59, hP⟩ : ∃ X : gJ, X = au J9 (h + 9) (80 * 0 + b) (J9 (h + 9) (80 * 0 + b - 1)) ∧ gP G T I9 X Q O H57 := ⟨_, rfl, hP⟩
                    refine lv_aload_n hx hb dX5_put_99 rfl (lv_at hl 0 rfl) ?_
                    refine g_get hC hP hm.1 rfl inX5 12 (by decide) q3_18 hm.2.2.2.2.2.2.2.2.2.2.1.1 dX5_put_100 ?_
                    refine lv_iload hx hb dX5_put_103 (lv_at hl 5 rfl) ?_
                    refine lv_aload_n hx hb dX5_put_105 rfl (lv_at hl 0 rfl) ?_
                    refine g_get hC hP hm.1 rfl inX5 12 (by decide) q3_18 hm.2.2.2.2.2.2.2.2.2.2.1.1 dX5_put_106 ?_
                    refine lv_iload hx hb dX5_put_109 (lv_at hl 5 rfl) ?_
                    refine lv_iconst (v := nI 1) hx hb dX5_put_111 (by decide) ?_
                    refine lv_isub hx hb dX5_put_112 ?_
                    refine g_topi (y := nI (80 * 0 + b - 1)) (nI_subn (by omega)) ?_
                    refine g_iald hC hP hm.2.2.2.2.2.2.2.2.2.2.1.2 (vp_in_nI (by omega) (by decide)) dX5_put_113 ?_
                    refine g_topi (y := I9 (h + 10) (80 * 0 + b - 1)) (congrArg (I9 (h + 10)) (nI_clamp (by omega))) ?_
                    refine g_iast hC hP hS hTA hm.2.2.2.2.2.2.2.2.2.2.1.2 (vp_in_nI (by omega) (by decide)) dX5_put_114 (fun H61 locs62 hP hS hz64 => ?_)
                    rw [show (nI (80 * 0 + b)).toNatClampNeg = 80 * 0 + b from nI_clamp (by omega)] at hP
                    obtain ⟨I63, hI63, hP⟩ : ∃ X : gI, X = au I9 (h + 10) (80 * 0 + b) (I9 (h + 10) (80 * 0 + b - 1)) ∧ gP G T X J59 Q O H61 := ⟨_, rfl, hP⟩
                    refine lv_aload_n hx hb dX5_put_115 rfl (lv_at hl 0 rfl) ?_
                    refine g_get hC hP hm.1 rfl inX5 13 (by decide) q3_19 hm.2.2.2.2.2.2.2.2.2.2.2.1.1 dX5_put_116 ?_
                    refine lv_iload hx hb dX5_put_119 (lv_at hl 5 rfl) ?_
                    refine lv_aload_n hx hb dX5_put_121 rfl (lv_at hl 0 rfl) ?_
                    refine g_get hC hP hm.1 rfl inX5 13 (by decide) q3_19 hm.2.2.2.2.2.2.2.2.2.2.2.1.1 dX5_put_122 ?_
                    refine lv_iload hx hb dX5_put_125 (lv_at hl 5 rfl) ?_
                    refine lv_iconst (v := nI 1) hx hb dX5_put_127 (by decide) ?_
                    refine lv_isub hx hb dX5_put_128 ?_
                    refine g_topi (y := nI (80 * 0 + b - 1)) (nI_subn (by omega)) ?_
                    refine g_iald hC hP hm.2.2.2.2.2.2.2.2.2.2.2.1.2 (vp_in_nI (by omega) (by decide)) dX5_put_129 ?_
                    refine g_topi (y := I63 (h + 11) (80 * 0 + b - 1)) (congrArg (I63 (h + 11)) (nI_clamp (by omega))) ?_
                    refine g_iast hC hP hS hTA hm.2.2.2.2.2.2.2.2.2.2.2.1.2 (vp_in_nI (by omega) (by decide)) dX5_put_130 (fun H65 locs66 hP hS hz68 => ?_)
                    rw [show (nI (80 * 0 + b)).toNatClampNeg = 80 * 0 + b from nI_clamp (by omega)] at hP
                    obtain ⟨I67, hI67, hP⟩ : ∃ X : gI, X = au I63 (h + 11) (80 * 0 + b) (I63 (h + 11) (80 * 0 + b - 1)) ∧ gP G T X J59 Q O H65 := ⟨_, rfl, hP⟩
                    refine lv_iconst (v := nI 0) hx hb dX5_put_131 (by decide) ?_
                    refine lv_istore (lv' := [(6, .int (nI 0)), (0, .ref h), (1, .int (nI 0)), (2, .int (nI ub)), (3, .int (nI ab)), (4, .int (nI (80 * 0 + a))), (5, .int (nI (80 * 0 + b)))]) hx hb dX5_put_132 hl (by decide) rfl (fun ls hl => ?_)
                    have L134 : ∀ (n134 : Nat) (y : Nat) (Z : Nat → Int64) (J10 : gJ), 5 ≤ n134 + y → (y ≤ 4) → (J10 = gu J59 (h + 8) Z) → (∀ i, Z i = if 4 * (80 * 0 + b) ≤ i ∧ i < 4 * (80 * 0 + b) + y then J59 (h + 8) (i - 4) else J59 (h + 8) i) → ∀ (Hl : Heap) (lcl : List Loc), gP G T I67 J10 Q O Hl → va_S A s.heap Hl lcl → ∀ ls : Array Slot, lv_has ls 7 [(0, .ref h), (1, .int (nI 0)), (2, .int (nI ub)), (3, .int (nI ab)), (4, .int (nI (80 * 0 + a))), (5, .int (nI (80 * 0 + b))), (6, .int (nI y))] → W p l e ({ frames := 1, cells := 0, slots := 0, locals := 28 } : Room) s m [.ref h, .int (nI 0), .int (nI ub), .int (nI ab)].toArray below meth c Hl lcl 0 0 (MQ below (gQc A (fun r H1 => r = none ∧ ∃ (I2 : gI) (J2 : gJ), gP G T I2 J2 Q O H1 ∧ crR I2 J2 h 0 (insC v C) ∧ crF I J I2 J2 h 0)) [.ref h, .int (nI 0), .int (nI ub), .int (nI ab)].toArray s 0 0 A) (F0 m 134 ls []) := by
                      intro n134
                      induction n134 with
                      | zero => intro y Z J10 hn134 hy t1 t2; exact absurd hn134 (by omega)
                      | succ n134 ih134 =>
                        intro y Z J10 hn134 hy t1 t2 Hl lcl hP hS ls hl
                        refine lv_iload hx hb dX5_put_134 (lv_at hl 6 rfl) ?_
                        refine lv_iconst (v := nI 4) hx hb dX5_put_136 (by decide) ?_
                        refine lv_icmp_ge (tgt := 172) hx hb dX5_put_137 (by decide) (fun c137 => ?_) (fun c137 => ?_)
                        · have c137 := (nI_leI (by omega) (by omega)).mp c137
                          have ey : y = 4 := by omega
                          rw [ey] at t2
                          have ns3 := row_s (h := h) (k := 80 * 0 + b) (hi := 80 * 0 + C.1) hJ59 hI63 hI67 t1 t2 (by omega) (by omega) s3
                          rw [show 80 * 0 + b - 1 = 80 * 0 + (b - 1) from by omega] at ns3
                          have ns1 : ∀ q, q ≠ h + 10 → q ≠ h + 11 → I67 q = I q := fun q q1 q2 => by rw [hI67, au_ne _ _ _ q2, hI63, au_ne _ _ _ q1]; exact s1 q q1 q2
                          have ns2 : ∀ q, q ≠ h + 8 → q ≠ h + 9 → J10 q = J q := fun q q1 q2 => by rw [t1, gu_ne _ _ q1, hJ59, au_ne _ _ _ q2]; exact s2 q q1 q2
                          refine lv_iinc (v := nI (80 * 0 + (b - 1))) (lv' := [(5, .int (nI (80 * 0 + (b - 1)))), (0, .ref h), (1, .int (nI 0)), (2, .int (nI ub)), (3, .int (nI ab)), (4, .int (nI (80 * 0 + a))), (6, .int (nI y))]) hx hb dX5_put_172 hl (k := 5) rfl ((nI_dec (by omega)).trans (congrArg nI (by omega))) (by decide) rfl (fun ls hl => ?_)
                          refine lv_goto (tgt := 76) hx hb dX5_put_175 (by decide) ?_
                          exact ih76 (b - 1) I67 J10 (by omega) (by omega) ns1 ns2 ns3 _ _ hP hS ls (lv_sub hl [1, 2, 3, 4, 5, 0] rfl)
                        · have c137 := mt (nI_leI (by omega) (by omega)).mpr c137
                          refine lv_aload_n hx hb dX5_put_140 rfl (lv_at hl 0 rfl) ?_
                          refine g_get hC hP hm.1 rfl inX5 10 (by decide) q3_16 hm.2.2.2.2.2.2.2.2.1.1 dX5_put_141 ?_
                          refine lv_iconst (v := nI 4) hx hb dX5_put_144 (by decide) ?_
                          refine lv_iload hx hb dX5_put_145 (lv_at hl 5 rfl) ?_
                          refine lv_imul hx hb dX5_put_147 ?_
                          refine g_topi (y := nI (4 * (80 * 0 + b))) (nI_mul _ _) ?_
                          refine lv_iload hx hb dX5_put_148 (lv_at hl 6 rfl) ?_
                          refine lv_iadd hx hb dX5_put_150 ?_
                          refine g_topi (y := nI (4 * (80 * 0 + b) + y)) (nI_add _ _) ?_
                          refine lv_aload_n hx hb dX5_put_151 rfl (lv_at hl 0 rfl) ?_
                          refine g_get hC hP hm.1 rfl inX5 10 (by decide) q3_16 hm.2.2.2.2.2.2.2.2.1.1 dX5_put_152 ?_
                          refine lv_iconst (v := nI 4) hx hb dX5_put_155 (by decide) ?_
                          refine lv_iload hx hb dX5_put_156 (lv_at hl 5 rfl) ?_
                          refine lv_imul hx hb dX5_put_158 ?_
                          refine g_topi (y := nI (4 * (80 * 0 + b))) (nI_mul _ _) ?_
                          refine lv_iconst (v := nI 4) hx hb dX5_put_159 (by decide) ?_
                          refine lv_isub hx hb dX5_put_160 ?_
                          refine g_topi (y := nI (4 * (80 * 0 + b) - 4)) (nI_subn (by omega)) ?_
                          refine lv_iload hx hb dX5_put_161 (lv_at hl 6 rfl) ?_
                          refine lv_iadd hx hb dX5_put_163 ?_
                          refine g_topi (y := nI (4 * (80 * 0 + b) - 4 + y)) (nI_add _ _) ?_
                          refine g_lald hC hP hm.2.2.2.2.2.2.2.2.1.2 (vp_in_nI (by omega) (by decide)) dX5_put_164 ?_
                          refine g_topl (y := J59 (h + 8) (4 * (80 * 0 + b) - 4 + y)) ((congrArg (J10 (h + 8)) (nI_clamp (by omega))).trans (by rw [t1, gu_eq, t2, if_neg (by omega)])) ?_
                          refine g_last hC hP hS hTA hm.2.2.2.2.2.2.2.2.1.2 (vp_in_nI (by omega) (by decide)) dX5_put_165 (fun H69 locs70 hP hS hz72 => ?_)
                          rw [show (nI (4 * (80 * 0 + b) + y)).toNatClampNeg = 4 * (80 * 0 + b) + y from nI_clamp (by omega)] at hP
                          obtain ⟨J71, hJ71, hP⟩ : ∃ X : gJ, X = au J10 (h + 8) (4 * (80 * 0 + b) + y) (J59 (h + 8) (4 * (80 * 0 + b) - 4 + y)) ∧ gP G T I67 X Q O H69 := ⟨_, rfl, hP⟩
                          refine lv_iinc (v := nI (y + 1)) (lv' := [(6, .int (nI (y + 1))), (0, .ref h), (1, .int (nI 0)), (2, .int (nI ub)), (3, .int (nI ab)), (4, .int (nI (80 * 0 + a))), (5, .int (nI (80 * 0 + b)))]) hx hb dX5_put_166 hl (k := 6) rfl (nI_inc _) (by decide) rfl (fun ls hl => ?_)
                          refine lv_goto (tgt := 134) hx hb dX5_put_169 (by decide) ?_
                          exact ih134 (y + 1) (gu Z (4 * (80 * 0 + b) + y) (J59 (h + 8) (4 * (80 * 0 + b) - 4 + y))) J71 (by omega) (by omega) (by rw [hJ71, t1, au_gu]) (z_s (by omega) t2) _ _ hP hS ls (lv_sub hl [1, 2, 3, 4, 5, 6, 0] rfl)
                    exact L134 5 0 (J59 (h + 8)) J59 (by omega) (by omega) (gu_self _ _).symm (fun i => (if_neg (by omega)).symm) _ _ hP hS ls (lv_sub hl [1, 2, 3, 4, 5, 6, 0] rfl)
              exact L76 (C.1 + 1) C.1 I J (by omega) (by omega) (fun q _ _ => rfl) (fun q _ _ => rfl) (fun x => by rw [if_neg (by omega)]; exact rowI_rf I J h x) _ _ hP hS ls (lv_sub hl [1, 2, 3, 4, 5, 0] rfl)
            · refine g_retcv hC hS ?_ dX5_put_62
              exact ⟨rfl, I, J, hP, by rw [insC_dup ha9 (ord_eq0 c59)]; exact hcr, crF_rf I J h 0⟩
        · have c28 := ord_nge c28
          refine lv_iinc (v := nI (80 * 0 + a + 1)) (lv' := [(4, .int (nI (80 * 0 + a + 1))), (0, .ref h), (1, .int (nI 0)), (2, .int (nI ub)), (3, .int (nI ab))]) hx hb dX5_put_31 hl (k := 4) rfl (nI_inc _) (by decide) rfl (fun ls hl => ?_)
          refine lv_goto (tgt := 6) hx hb dX5_put_34 (by decide) ?_
          exact ih6 (a + 1) (by omega) (by omega) (fun j hj => by rcases Nat.lt_succ_iff_lt_or_eq.mp hj with q | rfl; (exact h1 j q); (exact c28)) _ _ hP hS ls (lv_sub hl [1, 2, 3, 4, 0] rfl)
  exact L6 81 0 (by omega) (by omega) (fun j hj => absurd hj (Nat.not_lt_zero j)) _ _ hP hS ls (lv_sub hl [1, 2, 3, 4, 0] rfl)
set_option maxHeartbeats 4000000 in
set_option maxRecDepth 100000 in
theorem c_X5_put_1 (l : Launch) {G : gG} {T : gTy} {I : gI} {J : gJ} {Q : gR} {O : gO} {H : Heap} (hP : gP G T I J Q O H) {h ub ab : Nat} {C : CL} {v : MixV} (hm : isMo T O h) (hcr : crR I J h 1 C) (hv : vG v) (hrd : rdV v (J (h + 15)) (alS (J (h + 15)))) (hcg : cG C) (hsr : srt C) (hc79 : C.1 < 80) (eu : ub = v.2.2.1) (ea : ab = v.2.2.2) : Met l yX5_put (gw yX5_put cX5_put 7 (none)) ({ frames := 1, cells := 0, slots := 0, locals := 28 } : Room) (gPc G H [.ref h, .int (nI 1), .int (nI ub), .int (nI ab)]) (gQc (gF T H) (fun r H1 => r = none ∧ ∃ (I2 : gI) (J2 : gJ), gP G T I2 J2 Q O H1 ∧ crR I2 J2 h 1 (insC v C) ∧ crF I J I2 J2 h 1)) 0 0 (gF T H) := by
  refine g_met [(0, .ref h), (1, .int (nI 1)), (2, .int (nI ub)), (3, .int (nI ab))] (by decide) rfl (by exact Nat.le_of_ble_eq_true rfl) ?_
  intro p e s m below meth c hC hs ls hl
  have hx := hC.1.1
  have hb := hC.1.2.1
  have hS : va_S (gF T H) s.heap H [] := hs ▸ va_S.rf
  have hTA : ∀ q, (T q).1 ≠ 0 → gF T H q := fun q h => Or.inl h
  have hA : ∀ q, s.heap.size ≤ q → gF T H q := fun q h => Or.inr (hs ▸ h)
  generalize hAe : gF T H = A at hS hTA hA ⊢
  refine lv_bipush (v := nI 80) hx hb dX5_put_0 (by decide) ?_
  refine lv_iload_n hx hb dX5_put_2 rfl (lv_at hl 1 rfl) ?_
  refine lv_imul hx hb dX5_put_3 ?_
  refine g_topi (y := nI (80 * 1)) (nI_mul _ _) ?_
  refine lv_istore (lv' := [(4, .int (nI (80 * 1))), (0, .ref h), (1, .int (nI 1)), (2, .int (nI ub)), (3, .int (nI ab))]) hx hb dX5_put_4 hl (by decide) rfl (fun ls hl => ?_)
  have L6 : ∀ (n6 : Nat) (a : Nat), 81 ≤ n6 + a → (a ≤ C.1) → (∀ j, j < a → 0 < ordV v (C.2 j)) → ∀ (Hl : Heap) (lcl : List Loc), gP G T I J Q O Hl → va_S A s.heap Hl lcl → ∀ ls : Array Slot, lv_has ls 7 [(0, .ref h), (1, .int (nI 1)), (2, .int (nI ub)), (3, .int (nI ab)), (4, .int (nI (80 * 1 + a)))] → W p l e ({ frames := 1, cells := 0, slots := 0, locals := 28 } : Room) s m [.ref h, .int (nI 1), .int (nI ub), .int (nI ab)].toArray below meth c Hl lcl 0 0 (MQ below (gQc A (fun r H1 => r = none ∧ ∃ (I2 : gI) (J2 : gJ), gP G T I2 J2 Q O H1 ∧ crR I2 J2 h 1 (insC v C) ∧ crF I J I2 J2 h 1)) [.ref h, .int (nI 1), .int (nI ub), .int (nI ab)].toArray s 0 0 A) (F0 m 6 ls []) := by
    intro n6
    induction n6 with
    | zero => intro a hn6 ha h1; exact absurd hn6 (by omega)
    | succ n6 ih6 =>
      intro a hn6 ha h1 Hl lcl hP hS ls hl
      refine lv_iload hx hb dX5_put_6 (lv_at hl 4 rfl) ?_
      refine lv_bipush (v := nI 80) hx hb dX5_put_8 (by decide) ?_
      refine lv_iload_n hx hb dX5_put_10 rfl (lv_at hl 1 rfl) ?_
      refine lv_imul hx hb dX5_put_11 ?_
      refine g_topi (y := nI (80 * 1)) (nI_mul _ _) ?_
      refine lv_aload_n hx hb dX5_put_12 rfl (lv_at hl 0 rfl) ?_
      refine g_get hC hP hm.1 rfl inX5 9 (by decide) q3_15 hm.2.2.2.2.2.2.2.1.1 dX5_put_13 ?_
      refine lv_iload_n hx hb dX5_put_16 rfl (lv_at hl 1 rfl) ?_
      refine g_iald hC hP hm.2.2.2.2.2.2.2.1.2 (vp_in_nI (by omega) (by decide)) dX5_put_17 ?_
      refine g_topi (y := nI C.1) hcr.1 ?_
      refine lv_iadd hx hb dX5_put_18 ?_
      refine g_topi (y := nI (80 * 1 + C.1)) (nI_add _ _) ?_
      refine lv_icmp_ge (tgt := 37) hx hb dX5_put_19 (by decide) (fun c19 => ?_) (fun c19 => ?_)
      · have c19 := (nI_leI (by omega) (by omega)).mp c19
        refine lv_iload hx hb dX5_put_37 (lv_at hl 4 rfl) ?_
        refine lv_bipush (v := nI 80) hx hb dX5_put_39 (by decide) ?_
        refine lv_iload_n hx hb dX5_put_41 rfl (lv_at hl 1 rfl) ?_
        refine lv_imul hx hb dX5_put_42 ?_
        refine g_topi (y := nI (80 * 1)) (nI_mul _ _) ?_
        refine lv_aload_n hx hb dX5_put_43 rfl (lv_at hl 0 rfl) ?_
        refine g_get hC hP hm.1 rfl inX5 9 (by decide) q3_15 hm.2.2.2.2.2.2.2.1.1 dX5_put_44 ?_
        refine lv_iload_n hx hb dX5_put_47 rfl (lv_at hl 1 rfl) ?_
        refine g_iald hC hP hm.2.2.2.2.2.2.2.1.2 (vp_in_nI (by omega) (by decide)) dX5_put_48 ?_
        refine g_topi (y := nI C.1) hcr.1 ?_
        refine lv_iadd hx hb dX5_put_49 ?_
        refine g_topi (y := nI (80 * 1 + C.1)) (nI_add _ _) ?_
        refine lv_icmp_ge (tgt := 63) hx hb dX5_put_50 (by decide) (fun c50 => ?_) (fun c50 => ?_)
        · have c50 := (nI_leI (by omega) (by omega)).mp c50
          have h2 : a < C.1 → ordV v (C.2 a) < 0 := fun q => absurd q (by omega)
          obtain ⟨ei, es⟩ := ins_new hv hcg hsr (by omega) h1 h2
          refine lv_bipush (v := nI 80) hx hb dX5_put_63 (by decide) ?_
          refine lv_iload_n hx hb dX5_put_65 rfl (lv_at hl 1 rfl) ?_
          refine lv_imul hx hb dX5_put_66 ?_
          refine g_topi (y := nI (80 * 1)) (nI_mul _ _) ?_
          refine lv_aload_n hx hb dX5_put_67 rfl (lv_at hl 0 rfl) ?_
          refine g_get hC hP hm.1 rfl inX5 9 (by decide) q3_15 hm.2.2.2.2.2.2.2.1.1 dX5_put_68 ?_
          refine lv_iload_n hx hb dX5_put_71 rfl (lv_at hl 1 rfl) ?_
          refine g_iald hC hP hm.2.2.2.2.2.2.2.1.2 (vp_in_nI (by omega) (by decide)) dX5_put_72 ?_
          refine g_topi (y := nI C.1) hcr.1 ?_
          refine lv_iadd hx hb dX5_put_73 ?_
          refine g_topi (y := nI (80 * 1 + C.1)) (nI_add _ _) ?_
          refine lv_istore (lv' := [(5, .int (nI (80 * 1 + C.1))), (0, .ref h), (1, .int (nI 1)), (2, .int (nI ub)), (3, .int (nI ab)), (4, .int (nI (80 * 1 + a)))]) hx hb dX5_put_74 hl (by decide) rfl (fun ls hl => ?_)
          have L76 : ∀ (n76 : Nat) (b : Nat) (I9 : gI) (J9 : gJ), b + 1 ≤ n76 → (a ≤ b ∧ b ≤ C.1) → (∀ q, q ≠ h + 10 → q ≠ h + 11 → I9 q = I q) → (∀ q, q ≠ h + 8 → q ≠ h + 9 → J9 q = J q) → (shS I9 J9 I J h (80 * 1 + b) (80 * 1 + C.1)) → ∀ (Hl : Heap) (lcl : List Loc), gP G T I9 J9 Q O Hl → va_S A s.heap Hl lcl → ∀ ls : Array Slot, lv_has ls 7 [(0, .ref h), (1, .int (nI 1)), (2, .int (nI ub)), (3, .int (nI ab)), (4, .int (nI (80 * 1 + a))), (5, .int (nI (80 * 1 + b)))] → W p l e ({ frames := 1, cells := 0, slots := 0, locals := 28 } : Room) s m [.ref h, .int (nI 1), .int (nI ub), .int (nI ab)].toArray below meth c Hl lcl 0 0 (MQ below (gQc A (fun r H1 => r = none ∧ ∃ (I2 : gI) (J2 : gJ), gP G T I2 J2 Q O H1 ∧ crR I2 J2 h 1 (insC v C) ∧ crF I J I2 J2 h 1)) [.ref h, .int (nI 1), .int (nI ub), .int (nI ab)].toArray s 0 0 A) (F0 m 76 ls []) := by
            intro n76
            induction n76 with
            | zero => intro b I9 J9 hn76 hb2 s1 s2 s3; exact absurd hn76 (by omega)
            | succ n76 ih76 =>
              intro b I9 J9 hn76 hb2 s1 s2 s3 Hl lcl hP hS ls hl
              refine lv_iload hx hb dX5_put_76 (lv_at hl 5 rfl) ?_
              refine lv_iload hx hb dX5_put_78 (lv_at hl 4 rfl) ?_
              refine lv_icmp_le (tgt := 178) hx hb dX5_put_80 (by decide) (fun c80 => ?_) (fun c80 => ?_)
              · have c80 := (nI_leI (by omega) (by omega)).mp c80
                refine lv_aload_n hx hb dX5_put_178 rfl (lv_at hl 0 rfl) ?_
                refine g_get hC hP hm.1 rfl inX5 9 (by decide) q3_15 hm.2.2.2.2.2.2.2.1.1 dX5_put_179 ?_
                refine lv_iload_n hx hb dX5_put_182 rfl (lv_at hl 1 rfl) ?_
                refine lv_dup2_11 hx hb dX5_put_183 rfl rfl ?_
                refine g_iald hC hP hm.2.2.2.2.2.2.2.1.2 (vp_in_nI (by omega) (by decide)) dX5_put_184 ?_
                refine g_topi (y := nI C.1) (by rw [s1 _ (by omega) (by omega)]; exact hcr.1) ?_
                refine lv_iconst (v := nI 1) hx hb dX5_put_185 (by decide) ?_
                refine lv_iadd hx hb dX5_put_186 ?_
                refine g_topi (y := nI (C.1 + 1)) (nI_add _ _) ?_
                refine g_iast hC hP hS hTA hm.2.2.2.2.2.2.2.1.2 (vp_in_nI (by omega) (by decide)) dX5_put_187 (fun H1 locs2 hP hS hz4 => ?_)
                rw [show (nI 1).toNatClampNeg = 1 from nI_clamp (by omega)] at hP
                obtain ⟨I3, hI3, hP⟩ : ∃ X : gI, X = au I9 (h + 7) 1 (nI (C.1 + 1)) ∧ gP G T X J9 Q O H1 := ⟨_, rfl, hP⟩
                have eb : b = a := by omega
                rw [eb] at s3
                refine lv_aload_n hx hb dX5_put_188 rfl (lv_at hl 0 rfl) ?_
                refine g_get hC hP hm.1 rfl inX5 11 (by decide) q3_17 hm.2.2.2.2.2.2.2.2.2.1.1 dX5_put_189 ?_
                refine lv_iload hx hb dX5_put_192 (lv_at hl 4 rfl) ?_
                refine lv_aload_n hx hb dX5_put_194 rfl (lv_at hl 0 rfl) ?_
                refine g_get hC hP hm.1 rfl inX5 17 (by decide) q3_23 hm.2.2.2.2.2.2.2.2.2.2.2.2.2.2.2.1.1 dX5_put_195 ?_
                refine lv_iconst (v := nI 0) hx hb dX5_put_198 (by decide) ?_
                refine g_lald hC hP hm.2.2.2.2.2.2.2.2.2.2.2.2.2.2.2.1.2 (vp_in_nI (by omega) (by decide)) dX5_put_199 ?_
                refine g_topl (y := J (h + 15) 0) (by rw [s2 _ (by omega) (by omega)]; rfl) ?_
                refine lv_aload_n hx hb dX5_put_200 rfl (lv_at hl 0 rfl) ?_
                refine g_get hC hP hm.1 rfl inX5 17 (by decide) q3_23 hm.2.2.2.2.2.2.2.2.2.2.2.2.2.2.2.1.1 dX5_put_201 ?_
                refine lv_iconst (v := nI 1) hx hb dX5_put_204 (by decide) ?_
                refine g_lald hC hP hm.2.2.2.2.2.2.2.2.2.2.2.2.2.2.2.1.2 (vp_in_nI (by omega) (by decide)) dX5_put_205 ?_
                refine g_topl (y := J (h + 15) 1) (by rw [s2 _ (by omega) (by omega)]; rfl) ?_
                refine lv_ladd hx hb dX5_put_206 ?_
                refine lv_aload_n hx hb dX5_put_207 rfl (lv_at hl 0 rfl) ?_
                refine g_get hC hP hm.1 rfl inX5 17 (by decide) q3_23 hm.2.2.2.2.2.2.2.2.2.2.2.2.2.2.2.1.1 dX5_put_208 ?_
                refine lv_iconst (v := nI 2) hx hb dX5_put_211 (by decide) ?_
                refine g_lald hC hP hm.2.2.2.2.2.2.2.2.2.2.2.2.2.2.2.1.2 (vp_in_nI (by omega) (by decide)) dX5_put_212 ?_
                refine g_topl (y := J (h + 15) 2) (by rw [s2 _ (by omega) (by omega)]; rfl) ?_
                refine lv_ladd hx hb dX5_put_213 ?_
                refine lv_aload_n hx hb dX5_put_214 rfl (lv_at hl 0 rfl) ?_
                refine g_get hC hP hm.1 rfl inX5 17 (by decide) q3_23 hm.2.2.2.2.2.2.2.2.2.2.2.2.2.2.2.1.1 dX5_put_215 ?_
                refine lv_iconst (v := nI 3) hx hb dX5_put_218 (by decide) ?_
                refine g_lald hC hP hm.2.2.2.2.2.2.2.2.2.2.2.2.2.2.2.1.2 (vp_in_nI (by omega) (by decide)) dX5_put_219 ?_
                refine g_topl (y := J (h + 15) 3) (by rw [s2 _ (by omega) (by omega)]; rfl) ?_
                refine lv_ladd hx hb dX5_put_220 ?_
                refine g_last hC hP hS hTA hm.2.2.2.2.2.2.2.2.2.1.2 (vp_in_nI (by omega) (by decide)) dX5_put_221 (fun H5 locs6 hP hS hz8 => ?_)
                rw [show (nI (80 * 1 + a)).toNatClampNeg = 80 * 1 + a from nI_clamp (by omega)] at hP
                obtain ⟨J7, hJ7, hP⟩ : ∃ X : gJ, X = au J9 (h + 9) (80 * 1 + a) ((((J (h + 15) 0) + (J (h + 15) 1)) + (J (h + 15) 2)) + (J (h + 15) 3)) ∧ gP G T I3 X Q O H5 := ⟨_, rfl, hP⟩
                refine lv_aload_n hx hb dX5_put_222 rfl (lv_at hl 0 rfl) ?_
                refine g_get hC hP hm.1 rfl inX5 12 (by decide) q3_18 hm.2.2.2.2.2.2.2.2.2.2.1.1 dX5_put_223 ?_
                refine lv_iload hx hb dX5_put_226 (lv_at hl 4 rfl) ?_
                refine lv_iload_n hx hb dX5_put_228 rfl (lv_at hl 2 rfl) ?_
                refine g_iast hC hP hS hTA hm.2.2.2.2.2.2.2.2.2.2.1.2 (vp_in_nI (by omega) (by decide)) dX5_put_229 (fun H9 locs10 hP hS hz12 => ?_)
                rw [show (nI (80 * 1 + a)).toNatClampNeg = 80 * 1 + a from nI_clamp (by omega)] at hP
                obtain ⟨I11, hI11, hP⟩ : ∃ X : gI, X = au I3 (h + 10) (80 * 1 + a) (nI ub) ∧ gP G T X J7 Q O H9 := ⟨_, rfl, hP⟩
                refine lv_aload_n hx hb dX5_put_230 rfl (lv_at hl 0 rfl) ?_
                refine g_get hC hP hm.1 rfl inX5 13 (by decide) q3_19 hm.2.2.2.2.2.2.2.2.2.2.2.1.1 dX5_put_231 ?_
                refine lv_iload hx hb dX5_put_234 (lv_at hl 4 rfl) ?_
                refine lv_iload_n hx hb dX5_put_236 rfl (lv_at hl 3 rfl) ?_
                refine g_iast hC hP hS hTA hm.2.2.2.2.2.2.2.2.2.2.2.1.2 (vp_in_nI (by omega) (by decide)) dX5_put_237 (fun H13 locs14 hP hS hz16 => ?_)
                rw [show (nI (80 * 1 + a)).toNatClampNeg = 80 * 1 + a from nI_clamp (by omega)] at hP
                obtain ⟨I15, hI15, hP⟩ : ∃ X : gI, X = au I11 (h + 11) (80 * 1 + a) (nI ab) ∧ gP G T X J7 Q O H13 := ⟨_, rfl, hP⟩
                refine lv_iconst (v := nI 0) hx hb dX5_put_238 (by decide) ?_
                refine lv_istore (lv' := [(5, .int (nI 0)), (0, .ref h), (1, .int (nI 1)), (2, .int (nI ub)), (3, .int (nI ab)), (4, .int (nI (80 * 1 + a)))]) hx hb dX5_put_239 hl (by decide) rfl (fun ls hl => ?_)
                have L241 : ∀ (n241 : Nat) (y2 : Nat) (Z2 : Nat → Int64) (J11 : gJ), 5 ≤ n241 + y2 → (y2 ≤ 4) → (J11 = gu J7 (h + 8) Z2) → (∀ i, Z2 i = if 4 * (80 * 1 + a) ≤ i ∧ i < 4 * (80 * 1 + a) + y2 then J (h + 15) (i - 4 * (80 * 1 + a)) else J9 (h + 8) i) → ∀ (Hl : Heap) (lcl : List Loc), gP G T I15 J11 Q O Hl → va_S A s.heap Hl lcl → ∀ ls : Array Slot, lv_has ls 7 [(0, .ref h), (1, .int (nI 1)), (2, .int (nI ub)), (3, .int (nI ab)), (4, .int (nI (80 * 1 + a))), (5, .int (nI y2))] → W p l e ({ frames := 1, cells := 0, slots := 0, locals := 28 } : Room) s m [.ref h, .int (nI 1), .int (nI ub), .int (nI ab)].toArray below meth c Hl lcl 0 0 (MQ below (gQc A (fun r H1 => r = none ∧ ∃ (I2 : gI) (J2 : gJ), gP G T I2 J2 Q O H1 ∧ crR I2 J2 h 1 (insC v C) ∧ crF I J I2 J2 h 1)) [.ref h, .int (nI 1), .int (nI ub), .int (nI ab)].toArray s 0 0 A) (F0 m 241 ls []) := by
                  intro n241
                  induction n241 with
                  | zero => intro y2 Z2 J11 hn241 hy2 v1 v2; exact absurd hn241 (by omega)
                  | succ n241 ih241 =>
                    intro y2 Z2 J11 hn241 hy2 v1 v2 Hl lcl hP hS ls hl
                    refine lv_iload hx hb dX5_put_241 (lv_at hl 5 rfl) ?_
                    refine lv_iconst (v := nI 4) hx hb dX5_put_243 (by decide) ?_
                    refine lv_icmp_ge (tgt := 272) hx hb dX5_put_244 (by decide) (fun c244 => ?_) (fun c244 => ?_)
                    · have c244 := (nI_leI (by omega) (by omega)).mp c244
                      refine g_retcv hC hS ?_ dX5_put_272
                      have ey : y2 = 4 := (by omega)
                      subst ey
                      exact ⟨rfl, _, _, hP, put_fin (by decide) hcr hrd (by omega) hc79 eu ea s1 s2 s3 (by rw [hI15, hI11, hI3]) (by rw [v1, hJ7]; rfl) v2 ei⟩
                    · have c244 := mt (nI_leI (by omega) (by omega)).mpr c244
                      refine lv_aload_n hx hb dX5_put_247 rfl (lv_at hl 0 rfl) ?_
                      refine g_get hC hP hm.1 rfl inX5 10 (by decide) q3_16 hm.2.2.2.2.2.2.2.2.1.1 dX5_put_248 ?_
                      refine lv_iconst (v := nI 4) hx hb dX5_put_251 (by decide) ?_
                      refine lv_iload hx hb dX5_put_252 (lv_at hl 4 rfl) ?_
                      refine lv_imul hx hb dX5_put_254 ?_
                      refine g_topi (y := nI (4 * (80 * 1 + a))) (nI_mul _ _) ?_
                      refine lv_iload hx hb dX5_put_255 (lv_at hl 5 rfl) ?_
                      refine lv_iadd hx hb dX5_put_257 ?_
                      refine g_topi (y := nI (4 * (80 * 1 + a) + y2)) (nI_add _ _) ?_
                      refine lv_aload_n hx hb dX5_put_258 rfl (lv_at hl 0 rfl) ?_
                      refine g_get hC hP hm.1 rfl inX5 17 (by decide) q3_23 hm.2.2.2.2.2.2.2.2.2.2.2.2.2.2.2.1.1 dX5_put_259 ?_
                      refine lv_iload hx hb dX5_put_262 (lv_at hl 5 rfl) ?_
                      refine g_lald hC hP hm.2.2.2.2.2.2.2.2.2.2.2.2.2.2.2.1.2 (vp_in_nI (by omega) (by decide)) dX5_put_264 ?_
                      refine g_topl (y := J (h + 15) y2) ((congrArg (J11 (h + 15)) (nI_clamp (by omega))).trans (by rw [v1, gu_ne _ _ (by omega), hJ7, au_ne _ _ _ (by omega), s2 _ (by omega) (by omega)])) ?_
                      refine g_last hC hP hS hTA hm.2.2.2.2.2.2.2.2.1.2 (vp_in_nI (by omega) (by decide)) dX5_put_265 (fun H17 locs18 hP hS hz20 => ?_)
                      rw [show (nI (4 * (80 * 1 + a) + y2)).toNatClampNeg = 4 * (80 * 1 + a) + y2 from nI_clamp (by omega)] at hP
                      obtain ⟨J19, hJ19, hP⟩ : ∃ X : gJ, X = au J11 (h + 8) (4 * (80 * 1 + a) + y2) (J (h + 15) y2) ∧ gP G T I15 X Q O H17 := ⟨_, rfl, hP⟩
                      refine lv_iinc (v := nI (y2 + 1)) (lv' := [(5, .int (nI (y2 + 1))), (0, .ref h), (1, .int (nI 1)), (2, .int (nI ub)), (3, .int (nI ab)), (4, .int (nI (80 * 1 + a)))]) hx hb dX5_put_266 hl (k := 5) rfl (nI_inc _) (by decide) rfl (fun ls hl => ?_)
                      refine lv_goto (tgt := 241) hx hb dX5_put_269 (by decide) ?_
                      exact ih241 (y2 + 1) (gu Z2 (4 * (80 * 1 + a) + y2) (J (h + 15) y2)) J19 (by omega) (by omega) (by rw [hJ19, v1, au_gu]) (z_t v2) _ _ hP hS ls (lv_sub hl [1, 2, 3, 4, 5, 0] rfl)
                exact L241 5 0 (J7 (h + 8)) J7 (by omega) (by omega) (gu_self _ _).symm (fun i => by rw [if_neg (by omega), hJ7, au_ne _ _ _ (by omega)]) _ _ hP hS ls (lv_sub hl [1, 2, 3, 4, 5, 0] rfl)
              · have c80 := mt (nI_leI (by omega) (by omega)).mpr c80
                refine lv_aload_n hx hb dX5_put_83 rfl (lv_at hl 0 rfl) ?_
                refine g_get hC hP hm.1 rfl inX5 11 (by decide) q3_17 hm.2.2.2.2.2.2.2.2.2.1.1 dX5_put_84 ?_
                refine lv_iload hx hb dX5_put_87 (lv_at hl 5 rfl) ?_
                refine lv_aload_n hx hb dX5_put_89 rfl (lv_at hl 0 rfl) ?_
                refine g_get hC hP hm.1 rfl inX5 11 (by decide) q3_17 hm.2.2.2.2.2.2.2.2.2.1.1 dX5_put_90 ?_
                refine lv_iload hx hb dX5_put_93 (lv_at hl 5 rfl) ?_
                refine lv_iconst (v := nI 1) hx hb dX5_put_95 (by decide) ?_
                refine lv_isub hx hb dX5_put_96 ?_
                refine g_topi (y := nI (80 * 1 + b - 1)) (nI_subn (by omega)) ?_
                refine g_lald hC hP hm.2.2.2.2.2.2.2.2.2.1.2 (vp_in_nI (by omega) (by decide)) dX5_put_97 ?_
                refine g_topl (y := J9 (h + 9) (80 * 1 + b - 1)) (congrArg (J9 (h + 9)) (nI_clamp (by omega))) ?_
                refine g_last hC hP hS hTA hm.2.2.2.2.2.2.2.2.2.1.2 (vp_in_nI (by omega) (by decide)) dX5_put_98 (fun H21 locs22 hP hS hz24 => ?_)
                rw [show (nI (80 * 1 + b)).toNatClampNeg = 80 * 1 + b from nI_clamp (by omega)] at hP
                obtain ⟨J23, hJ23, hP⟩ : ∃ X : gJ, X = au J9 (h + 9) (80 * 1 + b) (J9 (h + 9) (80 * 1 + b - 1)) ∧ gP G T I9 X Q O H21 := ⟨_, rfl, hP⟩
                refine lv_aload_n hx hb dX5_put_99 rfl (lv_at hl 0 rfl) ?_
                refine g_get hC hP hm.1 rfl inX5 12 (by decide) q3_18 hm.2.2.2.2.2.2.2.2.2.2.1.1 dX5_put_100 ?_
                refine lv_iload hx hb dX5_put_103 (lv_at hl 5 rfl) ?_
                refine lv_aload_n hx hb dX5_put_105 rfl (lv_at hl 0 rfl) ?_
                refine g_get hC hP hm.1 rfl inX5 12 (by decide) q3_18 hm.2.2.2.2.2.2.2.2.2.2.1.1 dX5_put_106 ?_
                refine lv_iload hx hb dX5_put_109 (lv_at hl 5 rfl) ?_
                refine lv_iconst (v := nI 1) hx hb dX5_put_111 (by decide) ?_
                refine lv_isub hx hb dX5_put_112 ?_
                refine g_topi (y := nI (80 * 1 + b - 1)) (nI_subn (by omega)) ?_
                refine g_iald hC hP hm.2.2.2.2.2.2.2.2.2.2.1.2 (vp_in_nI (by omega) (by decide)) dX5_put_113 ?_
                refine g_topi (y := I9 (h + 10) (80 * 1 + b - 1)) (congrArg (I9 (h + 10)) (nI_clamp (by omega))) ?_
                refine g_iast hC hP hS hTA hm.2.2.2.2.2.2.2.2.2.2.1.2 (vp_in_nI (by omega) (by decide)) dX5_put_114 (fun H25 locs26 hP hS hz28 => ?_)
                rw [show (nI (80 * 1 + b)).toNatClampNeg = 80 * 1 + b from nI_clamp (by omega)] at hP
                obtain ⟨I27, hI27, hP⟩ : ∃ X : gI, X = au I9 (h + 10) (80 * 1 + b) (I9 (h + 10) (80 * 1 + b - 1)) ∧ gP G T X J23 Q O H25 := ⟨_, rfl, hP⟩
                refine lv_aload_n hx hb dX5_put_115 rfl (lv_at hl 0 rfl) ?_
                refine g_get hC hP hm.1 rfl inX5 13 (by decide) q3_19 hm.2.2.2.2.2.2.2.2.2.2.2.1.1 dX5_put_116 ?_
                refine lv_iload hx hb dX5_put_119 (lv_at hl 5 rfl) ?_
                refine lv_aload_n hx hb dX5_put_121 rfl (lv_at hl 0 rfl) ?_
                refine g_get hC hP hm.1 rfl inX5 13 (by decide) q3_19 hm.2.2.2.2.2.2.2.2.2.2.2.1.1 dX5_put_122 ?_
                refine lv_iload hx hb dX5_put_125 (lv_at hl 5 rfl) ?_
                refine lv_iconst (v := nI 1) hx hb dX5_put_127 (by decide) ?_
                refine lv_isub hx hb dX5_put_128 ?_
                refine g_topi (y := nI (80 * 1 + b - 1)) (nI_subn (by omega)) ?_
                refine g_iald hC hP hm.2.2.2.2.2.2.2.2.2.2.2.1.2 (vp_in_nI (by omega) (by decide)) dX5_put_129 ?_
                refine g_topi (y := I27 (h + 11) (80 * 1 + b - 1)) (congrArg (I27 (h + 11)) (nI_clamp (by omega))) ?_
                refine g_iast hC hP hS hTA hm.2.2.2.2.2.2.2.2.2.2.2.1.2 (vp_in_nI (by omega) (by decide)) dX5_put_130 (fun H29 locs30 hP hS hz32 => ?_)
                rw [show (nI (80 * 1 + b)).toNatClampNeg = 80 * 1 + b from nI_clamp (by omega)] at hP
                obtain ⟨I31, hI31, hP⟩ : ∃ X : gI, X = au I27 (h + 11) (80 * 1 + b) (I27 (h + 11) (80 * 1 + b - 1)) ∧ gP G T X J23 Q O H29 := ⟨_, rfl, hP⟩
                refine lv_iconst (v := nI 0) hx hb dX5_put_131 (by decide) ?_
                refine lv_istore (lv' := [(6, .int (nI 0)), (0, .ref h), (1, .int (nI 1)), (2, .int (nI ub)), (3, .int (nI ab)), (4, .int (nI (80 * 1 + a))), (5, .int (nI (80 * 1 + b)))]) hx hb dX5_put_132 hl (by decide) rfl (fun ls hl => ?_)
                have L134 : ∀ (n134 : Nat) (y : Nat) (Z : Nat → Int64) (J10 : gJ), 5 ≤ n134 + y → (y ≤ 4) → (J10 = gu J23 (h + 8) Z) → (∀ i, Z i = if 4 * (80 * 1 + b) ≤ i ∧ i < 4 * (80 * 1 + b) + y then J23 (h + 8) (i - 4) else J23 (h + 8) i) → ∀ (Hl : Heap) (lcl : List Loc), gP G T I31 J10 Q O Hl → va_S A s.heap Hl lcl → ∀ ls : Array Slot, lv_has ls 7 [(0, .ref h), (1, .int (nI 1)), (2, .int (nI ub)), (3, .int (nI ab)), (4, .int (nI (80 * 1 + a))), (5, .int (nI (80 * 1 + b))), (6, .int (nI y))] → W p l e ({ frames := 1, cells := 0, slots := 0, locals := 28 } : Room) s m [.ref h, .int (nI 1), .int (nI ub), .int (nI ab)].toArray below meth c Hl lcl 0 0 (MQ below (gQc A (fun r H1 => r = none ∧ ∃ (I2 : gI) (J2 : gJ), gP G T I2 J2 Q O H1 ∧ crR I2 J2 h 1 (insC v C) ∧ crF I J I2 J2 h 1)) [.ref h, .int (nI 1), .int (nI ub), .int (nI ab)].toArray s 0 0 A) (F0 m 134 ls []) := by
                  intro n134
                  induction n134 with
                  | zero => intro y Z J10 hn134 hy t1 t2; exact absurd hn134 (by omega)
                  | succ n134 ih134 =>
                    intro y Z J10 hn134 hy t1 t2 Hl lcl hP hS ls hl
                    refine lv_iload hx hb dX5_put_134 (lv_at hl 6 rfl) ?_
                    refine lv_iconst (v := nI 4) hx hb dX5_put_136 (by decide) ?_
                    refine lv_icmp_ge (tgt := 172) hx hb dX5_put_137 (by decide) (fun c137 => ?_) (fun c137 => ?_)
                    · have c137 := (nI_leI (by omega) (by omega)).mp c137
                      have ey : y = 4 := by omega
                      rw [ey] at t2
                      have ns3 := row_s (h := h) (k := 80 * 1 + b) (hi := 80 * 1 + C.1) hJ23 hI27 hI31 t1 t2 (by omega) (by omega) s3
                      rw [show 80 * 1 + b - 1 = 80 * 1 + (b - 1) from by omega] at ns3
                      have ns1 : ∀ q, q ≠ h + 10 → q ≠ h + 11 → I31 q = I q := fun q q1 q2 => by rw [hI31, au_ne _ _ _ q2, hI27, au_ne _ _ _ q1]; exact s1 q q1 q2
                      have ns2 : ∀ q, q ≠ h + 8 → q ≠ h + 9 → J10 q = J q := fun q q1 q2 => by rw [t1, gu_ne _ _ q1, hJ23, au_ne _ _ _ q2]; exact s2 q q1 q2
                      refine lv_iinc (v := nI (80 * 1 + (b - 1))) (lv' := [(5, .int (nI (80 * 1 + (b - 1)))), (0, .ref h), (1, .int (nI 1)), (2, .int (nI ub)), (3, .int (nI ab)), (4, .int (nI (80 * 1 + a))), (6, .int (nI y))]) hx hb dX5_put_172 hl (k := 5) rfl ((nI_dec (by omega)).trans (congrArg nI (by omega))) (by decide) rfl (fun ls hl => ?_)
                      refine lv_goto (tgt := 76) hx hb dX5_put_175 (by decide) ?_
                      exact ih76 (b - 1) I31 J10 (by omega) (by omega) ns1 ns2 ns3 _ _ hP hS ls (lv_sub hl [1, 2, 3, 4, 5, 0] rfl)
                    · have c137 := mt (nI_leI (by omega) (by omega)).mpr c137
                      refine lv_aload_n hx hb dX5_put_140 rfl (lv_at hl 0 rfl) ?_
                      refine g_get hC hP hm.1 rfl inX5 10 (by decide) q3_16 hm.2.2.2.2.2.2.2.2.1.1 dX5_put_141 ?_
                      refine lv_iconst (v := nI 4) hx hb dX5_put_144 (by decide) ?_
                      refine lv_iload hx hb dX5_put_145 (lv_at hl 5 rfl) ?_
                      refine lv_imul hx hb dX5_put_147 ?_
                      refine g_topi (y := nI (4 * (80 * 1 + b))) (nI_mul _ _) ?_
                      refine lv_iload hx hb dX5_put_148 (lv_at hl 6 rfl) ?_
                      refine lv_iadd hx hb dX5_put_150 ?_
                      refine g_topi (y := nI (4 * (80 * 1 + b) + y)) (nI_add _ _) ?_
                      refine lv_aload_n hx hb dX5_put_151 rfl (lv_at hl 0 rfl) ?_
                      refine g_get hC hP hm.1 rfl inX5 10 (by decide) q3_16 hm.2.2.2.2.2.2.2.2.1.1 dX5_put_152 ?_
                      refine lv_iconst (v := nI 4) hx hb dX5_put_155 (by decide) ?_
                      refine lv_iload hx hb dX5_put_156 (lv_at hl 5 rfl) ?_
                      refine lv_imul hx hb dX5_put_158 ?_
                      refine g_topi (y := nI (4 * (80 * 1 + b))) (nI_mul _ _) ?_
                      refine lv_iconst (v := nI 4) hx hb dX5_put_159 (by decide) ?_
                      refine lv_isub hx hb dX5_put_160 ?_
                      refine g_topi (y := nI (4 * (80 * 1 + b) - 4)) (nI_subn (by omega)) ?_
                      refine lv_iload hx hb dX5_put_161 (lv_at hl 6 rfl) ?_
                      refine lv_iadd hx hb dX5_put_163 ?_
                      refine g_topi (y := nI (4 * (80 * 1 + b) - 4 + y)) (nI_add _ _) ?_
                      refine g_lald hC hP hm.2.2.2.2.2.2.2.2.1.2 (vp_in_nI (by omega) (by decide)) dX5_put_164 ?_
                      refine g_topl (y := J23 (h + 8) (4 * (80 * 1 + b) - 4 + y)) ((congrArg (J10 (h + 8)) (nI_clamp (by omega))).trans (by rw [t1, gu_eq, t2, if_neg (by omega)])) ?_
                      refine g_last hC hP hS hTA hm.2.2.2.2.2.2.2.2.1.2 (vp_in_nI (by omega) (by decide)) dX5_put_165 (fun H33 locs34 hP hS hz36 => ?_)
                      rw [show (nI (4 * (80 * 1 + b) + y)).toNatClampNeg = 4 * (80 * 1 + b) + y from nI_clamp (by omega)] at hP
                      obtain ⟨J35, hJ35, hP⟩ : ∃ X : gJ, X = au J10 (h + 8) (4 * (80 * 1 + b) + y) (J23 (h + 8) (4 * (80 * 1 + b) - 4 + y)) ∧ gP G T I31 X Q O H33 := ⟨_, rfl, hP⟩
                      refine lv_iinc (v := nI (y + 1)) (lv' := [(6, .int (nI (y + 1))), (0, .ref h), (1, .int (nI 1)), (2, .int (nI ub)), (3, .int (nI ab)), (4, .int (nI (80 * 1 + a))), (5, .int (nI (80 * 1 + b)))]) hx hb dX5_put_166 hl (k := 6) rfl (nI_inc _) (by decide) rfl (fun ls hl => ?_)
                      refine lv_goto (tgt := 134) hx hb dX5_put_169 (by decide) ?_
                      exact ih134 (y + 1) (gu Z (4 * (80 * 1 + b) + y) (J23 (h + 8) (4 * (80 * 1 + b) - 4 + y))) J35 (by omega) (by omega) (by rw [hJ35, t1, au_gu]) (z_s (by omega) t2) _ _ hP hS ls (lv_sub hl [1, 2, 3, 4, 5, 6, 0] rfl)
                exact L134 5 0 (J23 (h + 8)) J23 (by omega) (by omega) (gu_self _ _).symm (fun i => (if_neg (by omega)).symm) _ _ hP hS ls (lv_sub hl [1, 2, 3, 4, 5, 6, 0] rfl)
          exact L76 (C.1 + 1) C.1 I J (by omega) (by omega) (fun q _ _ => rfl) (fun q _ _ => rfl) (fun x => by rw [if_neg (by omega)]; exact rowI_rf I J h x) _ _ hP hS ls (lv_sub hl [1, 2, 3, 4, 5, 0] rfl)
        · have c50 := mt (nI_leI (by omega) (by omega)).mpr c50
          exact absurd c50 (by omega)
      · have c19 := mt (nI_leI (by omega) (by omega)).mpr c19
        refine lv_aload_n hx hb dX5_put_22 rfl (lv_at hl 0 rfl) ?_
        refine lv_iload hx hb dX5_put_23 (lv_at hl 4 rfl) ?_
        refine g_cp (g_rV (As := [.int (nI (80 * 1 + a))]) hC hP (c_X5_ahead l hP (h := h) (ap := 80 * 1 + a) (by first | assumption | omega) (by first | assumption | omega)) hm.1 rfl ⟨q3_209, q3_206, q3_208, qs_42, q1_6⟩ dd_X5_ahead ⟨Nat.le_of_ble_eq_true rfl, Nat.le_of_ble_eq_true rfl, rfl, rfl⟩ hl.1 rfl (Nat.le_of_ble_eq_true rfl) dX5_put_25 ⟨Nat.le_of_ble_eq_true rfl, Nat.le_of_ble_eq_true rfl⟩) ?_
        refine W.eq (g2 := F0 m 28 ls [.int (aheadF (J (h + 15)) (fun k => J (h + 8) (4 * (80 * 1 + a) + k)) (J (h + 9) (80 * 1 + a)))]) rfl ?_
        have ha9 : a < C.1 := by omega
        refine g_topi (y := -(ordV v (C.2 a))) (ah_ord hv (hcg a ha9) hrd (hcr.2 a ha9).1) ?_
        refine lv_if_ge (tgt := 37) hx hb dX5_put_28 (by decide) (fun c28 => ?_) (fun c28 => ?_)
        · have c28 := ord_ge c28
          refine lv_iload hx hb dX5_put_37 (lv_at hl 4 rfl) ?_
          refine lv_bipush (v := nI 80) hx hb dX5_put_39 (by decide) ?_
          refine lv_iload_n hx hb dX5_put_41 rfl (lv_at hl 1 rfl) ?_
          refine lv_imul hx hb dX5_put_42 ?_
          refine g_topi (y := nI (80 * 1)) (nI_mul _ _) ?_
          refine lv_aload_n hx hb dX5_put_43 rfl (lv_at hl 0 rfl) ?_
          refine g_get hC hP hm.1 rfl inX5 9 (by decide) q3_15 hm.2.2.2.2.2.2.2.1.1 dX5_put_44 ?_
          refine lv_iload_n hx hb dX5_put_47 rfl (lv_at hl 1 rfl) ?_
          refine g_iald hC hP hm.2.2.2.2.2.2.2.1.2 (vp_in_nI (by omega) (by decide)) dX5_put_48 ?_
          refine g_topi (y := nI C.1) hcr.1 ?_
          refine lv_iadd hx hb dX5_put_49 ?_
          refine g_topi (y := nI (80 * 1 + C.1)) (nI_add _ _) ?_
          refine lv_icmp_ge (tgt := 63) hx hb dX5_put_50 (by decide) (fun c50 => ?_) (fun c50 => ?_)
          · have c50 := (nI_leI (by omega) (by omega)).mp c50
            exact absurd c50 (by omega)
          · have c50 := mt (nI_leI (by omega) (by omega)).mpr c50
            refine lv_aload_n hx hb dX5_put_53 rfl (lv_at hl 0 rfl) ?_
            refine lv_iload hx hb dX5_put_54 (lv_at hl 4 rfl) ?_
            refine g_cp (g_rV (As := [.int (nI (80 * 1 + a))]) hC hP (c_X5_ahead l hP (h := h) (ap := 80 * 1 + a) (by first | assumption | omega) (by first | assumption | omega)) hm.1 rfl ⟨q3_209, q3_206, q3_208, qs_42, q1_6⟩ dd_X5_ahead ⟨Nat.le_of_ble_eq_true rfl, Nat.le_of_ble_eq_true rfl, rfl, rfl⟩ hl.1 rfl (Nat.le_of_ble_eq_true rfl) dX5_put_56 ⟨Nat.le_of_ble_eq_true rfl, Nat.le_of_ble_eq_true rfl⟩) ?_
            refine W.eq (g2 := F0 m 59 ls [.int (aheadF (J (h + 15)) (fun k => J (h + 8) (4 * (80 * 1 + a) + k)) (J (h + 9) (80 * 1 + a)))]) rfl ?_
            have ha9 : a < C.1 := by omega
            refine g_topi (y := -(ordV v (C.2 a))) (ah_ord hv (hcg a ha9) hrd (hcr.2 a ha9).1) ?_
            refine lv_if_ne (tgt := 63) hx hb dX5_put_59 (by decide) (fun c59 => ?_) (fun c59 => ?_)
            · have h2 : a < C.1 → ordV v (C.2 a) < 0 := fun _ => ord_lt0 c28 c59
              obtain ⟨ei, es⟩ := ins_new hv hcg hsr (by omega) h1 h2
              refine lv_bipush (v := nI 80) hx hb dX5_put_63 (by decide) ?_
              refine lv_iload_n hx hb dX5_put_65 rfl (lv_at hl 1 rfl) ?_
              refine lv_imul hx hb dX5_put_66 ?_
              refine g_topi (y := nI (80 * 1)) (nI_mul _ _) ?_
              refine lv_aload_n hx hb dX5_put_67 rfl (lv_at hl 0 rfl) ?_
              refine g_get hC hP hm.1 rfl inX5 9 (by decide) q3_15 hm.2.2.2.2.2.2.2.1.1 dX5_put_68 ?_
              refine lv_iload_n hx hb dX5_put_71 rfl (lv_at hl 1 rfl) ?_
              refine g_iald hC hP hm.2.2.2.2.2.2.2.1.2 (vp_in_nI (by omega) (by decide)) dX5_put_72 ?_
              refine g_topi (y := nI C.1) hcr.1 ?_
              refine lv_iadd hx hb dX5_put_73 ?_
              refine g_topi (y := nI (80 * 1 + C.1)) (nI_add _ _) ?_
              refine lv_istore (lv' := [(5, .int (nI (80 * 1 + C.1))), (0, .ref h), (1, .int (nI 1)), (2, .int (nI ub)), (3, .int (nI ab)), (4, .int (nI (80 * 1 + a)))]) hx hb dX5_put_74 hl (by decide) rfl (fun ls hl => ?_)
              have L76 : ∀ (n76 : Nat) (b : Nat) (I9 : gI) (J9 : gJ), b + 1 ≤ n76 → (a ≤ b ∧ b ≤ C.1) → (∀ q, q ≠ h + 10 → q ≠ h + 11 → I9 q = I q) → (∀ q, q ≠ h + 8 → q ≠ h + 9 → J9 q = J q) → (shS I9 J9 I J h (80 * 1 + b) (80 * 1 + C.1)) → ∀ (Hl : Heap) (lcl : List Loc), gP G T I9 J9 Q O Hl → va_S A s.heap Hl lcl → ∀ ls : Array Slot, lv_has ls 7 [(0, .ref h), (1, .int (nI 1)), (2, .int (nI ub)), (3, .int (nI ab)), (4, .int (nI (80 * 1 + a))), (5, .int (nI (80 * 1 + b)))] → W p l e ({ frames := 1, cells := 0, slots := 0, locals := 28 } : Room) s m [.ref h, .int (nI 1), .int (nI ub), .int (nI ab)].toArray below meth c Hl lcl 0 0 (MQ below (gQc A (fun r H1 => r = none ∧ ∃ (I2 : gI) (J2 : gJ), gP G T I2 J2 Q O H1 ∧ crR I2 J2 h 1 (insC v C) ∧ crF I J I2 J2 h 1)) [.ref h, .int (nI 1), .int (nI ub), .int (nI ab)].toArray s 0 0 A) (F0 m 76 ls []) := by
                intro n76
                induction n76 with
                | zero => intro b I9 J9 hn76 hb2 s1 s2 s3; exact absurd hn76 (by omega)
                | succ n76 ih76 =>
                  intro b I9 J9 hn76 hb2 s1 s2 s3 Hl lcl hP hS ls hl
                  refine lv_iload hx hb dX5_put_76 (lv_at hl 5 rfl) ?_
                  refine lv_iload hx hb dX5_put_78 (lv_at hl 4 rfl) ?_
                  refine lv_icmp_le (tgt := 178) hx hb dX5_put_80 (by decide) (fun c80 => ?_) (fun c80 => ?_)
                  · have c80 := (nI_leI (by omega) (by omega)).mp c80
                    refine lv_aload_n hx hb dX5_put_178 rfl (lv_at hl 0 rfl) ?_
                    refine g_get hC hP hm.1 rfl inX5 9 (by decide) q3_15 hm.2.2.2.2.2.2.2.1.1 dX5_put_179 ?_
                    refine lv_iload_n hx hb dX5_put_182 rfl (lv_at hl 1 rfl) ?_
                    refine lv_dup2_11 hx hb dX5_put_183 rfl rfl ?_
                    refine g_iald hC hP hm.2.2.2.2.2.2.2.1.2 (vp_in_nI (by omega) (by decide)) dX5_put_184 ?_
                    refine g_topi (y := nI C.1) (by rw [s1 _ (by omega) (by omega)]; exact hcr.1) ?_
                    refine lv_iconst (v := nI 1) hx hb dX5_put_185 (by decide) ?_
                    refine lv_iadd hx hb dX5_put_186 ?_
                    refine g_topi (y := nI (C.1 + 1)) (nI_add _ _) ?_
                    refine g_iast hC hP hS hTA hm.2.2.2.2.2.2.2.1.2 (vp_in_nI (by omega) (by decide)) dX5_put_187 (fun H37 locs38 hP hS hz40 => ?_)
                    rw [show (nI 1).toNatClampNeg = 1 from nI_clamp (by omega)] at hP
                    obtain ⟨I39, hI39, hP⟩ : ∃ X : gI, X = au I9 (h + 7) 1 (nI (C.1 + 1)) ∧ gP G T X J9 Q O H37 := ⟨_, rfl, hP⟩
                    have eb : b = a := by omega
                    rw [eb] at s3
                    refine lv_aload_n hx hb dX5_put_188 rfl (lv_at hl 0 rfl) ?_
                    refine g_get hC hP hm.1 rfl inX5 11 (by decide) q3_17 hm.2.2.2.2.2.2.2.2.2.1.1 dX5_put_189 ?_
                    refine lv_iload hx hb dX5_put_192 (lv_at hl 4 rfl) ?_
                    refine lv_aload_n hx hb dX5_put_194 rfl (lv_at hl 0 rfl) ?_
                    refine g_get hC hP hm.1 rfl inX5 17 (by decide) q3_23 hm.2.2.2.2.2.2.2.2.2.2.2.2.2.2.2.1.1 dX5_put_195 ?_
                    refine lv_iconst (v := nI 0) hx hb dX5_put_198 (by decide) ?_
                    refine g_lald hC hP hm.2.2.2.2.2.2.2.2.2.2.2.2.2.2.2.1.2 (vp_in_nI (by omega) (by decide)) dX5_put_199 ?_
                    refine g_topl (y := J (h + 15) 0) (by rw [s2 _ (by omega) (by omega)]; rfl) ?_
                    refine lv_aload_n hx hb dX5_put_200 rfl (lv_at hl 0 rfl) ?_
                    refine g_get hC hP hm.1 rfl inX5 17 (by decide) q3_23 hm.2.2.2.2.2.2.2.2.2.2.2.2.2.2.2.1.1 dX5_put_201 ?_
                    refine lv_iconst (v := nI 1) hx hb dX5_put_204 (by decide) ?_
                    refine g_lald hC hP hm.2.2.2.2.2.2.2.2.2.2.2.2.2.2.2.1.2 (vp_in_nI (by omega) (by decide)) dX5_put_205 ?_
                    refine g_topl (y := J (h + 15) 1) (by rw [s2 _ (by omega) (by omega)]; rfl) ?_
                    refine lv_ladd hx hb dX5_put_206 ?_
                    refine lv_aload_n hx hb dX5_put_207 rfl (lv_at hl 0 rfl) ?_
                    refine g_get hC hP hm.1 rfl inX5 17 (by decide) q3_23 hm.2.2.2.2.2.2.2.2.2.2.2.2.2.2.2.1.1 dX5_put_208 ?_
                    refine lv_iconst (v := nI 2) hx hb dX5_put_211 (by decide) ?_
                    refine g_lald hC hP hm.2.2.2.2.2.2.2.2.2.2.2.2.2.2.2.1.2 (vp_in_nI (by omega) (by decide)) dX5_put_212 ?_
                    refine g_topl (y := J (h + 15) 2) (by rw [s2 _ (by omega) (by omega)]; rfl) ?_
                    refine lv_ladd hx hb dX5_put_213 ?_
                    refine lv_aload_n hx hb dX5_put_214 rfl (lv_at hl 0 rfl) ?_
                    refine g_get hC hP hm.1 rfl inX5 17 (by decide) q3_23 hm.2.2.2.2.2.2.2.2.2.2.2.2.2.2.2.1.1 dX5_put_215 ?_
                    refine lv_iconst (v := nI 3) hx hb dX5_put_218 (by decide) ?_
                    refine g_lald hC hP hm.2.2.2.2.2.2.2.2.2.2.2.2.2.2.2.1.2 (vp_in_nI (by omega) (by decide)) dX5_put_219 ?_
                    refine g_topl (y := J (h + 15) 3) (by rw [s2 _ (by omega) (by omega)]; rfl) ?_
                    refine lv_ladd hx hb dX5_put_220 ?_
                    refine g_last hC hP hS hTA hm.2.2.2.2.2.2.2.2.2.1.2 (vp_in_nI (by omega) (by decide)) dX5_put_221 (fun H41 locs42 hP hS hz44 => ?_)
                    rw [show (nI (80 * 1 + a)).toNatClampNeg = 80 * 1 + a from nI_clamp (by omega)] at hP
                    obtain ⟨J43, hJ43, hP⟩ : ∃ X : gJ, X = au J9 (h + 9) (80 * 1 + a) ((((J (h + 15) 0) + (J (h + 15) 1)) + (J (h + 15) 2)) + (J (h + 15) 3)) ∧ gP G T I39 X Q O H41 := ⟨_, rfl, hP⟩
                    refine lv_aload_n hx hb dX5_put_222 rfl (lv_at hl 0 rfl) ?_
                    refine g_get hC hP hm.1 rfl inX5 12 (by decide) q3_18 hm.2.2.2.2.2.2.2.2.2.2.1.1 dX5_put_223 ?_
                    refine lv_iload hx hb dX5_put_226 (lv_at hl 4 rfl) ?_
                    refine lv_iload_n hx hb dX5_put_228 rfl (lv_at hl 2 rfl) ?_
                    refine g_iast hC hP hS hTA hm.2.2.2.2.2.2.2.2.2.2.1.2 (vp_in_nI (by omega) (by decide)) dX5_put_229 (fun H45 locs46 hP hS hz48 => ?_)
                    rw [show (nI (80 * 1 + a)).toNatClampNeg = 80 * 1 + a from nI_clamp (by omega)] at hP
                    obtain ⟨I47, hI47, hP⟩ : ∃ X : gI, X = au I39 (h + 10) (80 * 1 + a) (nI ub) ∧ gP G T X J43 Q O H45 := ⟨_, rfl, hP⟩
                    refine lv_aload_n hx hb dX5_put_230 rfl (lv_at hl 0 rfl) ?_
                    refine g_get hC hP hm.1 rfl inX5 13 (by decide) q3_19 hm.2.2.2.2.2.2.2.2.2.2.2.1.1 dX5_put_231 ?_
                    refine lv_iload hx hb dX5_put_234 (lv_at hl 4 rfl) ?_
                    refine lv_iload_n hx hb dX5_put_236 rfl (lv_at hl 3 rfl) ?_
                    refine g_iast hC hP hS hTA hm.2.2.2.2.2.2.2.2.2.2.2.1.2 (vp_in_nI (by omega) (by decide)) dX5_put_237 (fun H49 locs50 hP hS hz52 => ?_)
                    rw [show (nI (80 * 1 + a)).toNatClampNeg = 80 * 1 + a from nI_clamp (by omega)] at hP
                    obtain ⟨I51, hI51, hP⟩ : ∃ X : gI, X = au I47 (h + 11) (80 * 1 + a) (nI ab) ∧ gP G T X J43 Q O H49 := ⟨_, rfl, hP⟩
                    refine lv_iconst (v := nI 0) hx hb dX5_put_238 (by decide) ?_
                    refine lv_istore (lv' := [(5, .int (nI 0)), (0, .ref h), (1, .int (nI 1)), (2, .int (nI ub)), (3, .int (nI ab)), (4, .int (nI (80 * 1 + a)))]) hx hb dX5_put_239 hl (by decide) rfl (fun ls hl => ?_)
                    have L241 : ∀ (n241 : Nat) (y2 : Nat) (Z2 : Nat → Int64) (J11 : gJ), 5 ≤ n241 + y2 → (y2 ≤ 4) → (J11 = gu J43 (h + 8) Z2) → (∀ i, Z2 i = if 4 * (80 * 1 + a) ≤ i ∧ i < 4 * (80 * 1 + a) + y2 then J (h + 15) (i - 4 * (80 * 1 + a)) else J9 (h + 8) i) → ∀ (Hl : Heap) (lcl : List Loc), gP G T I51 J11 Q O Hl → va_S A s.heap Hl lcl → ∀ ls : Array Slot, lv_has ls 7 [(0, .ref h), (1, .int (nI 1)), (2, .int (nI ub)), (3, .int (nI ab)), (4, .int (nI (80 * 1 + a))), (5, .int (nI y2))] → W p l e ({ frames := 1, cells := 0, slots := 0, locals := 28 } : Room) s m [.ref h, .int (nI 1), .int (nI ub), .int (nI ab)].toArray below meth c Hl lcl 0 0 (MQ below (gQc A (fun r H1 => r = none ∧ ∃ (I2 : gI) (J2 : gJ), gP G T I2 J2 Q O H1 ∧ crR I2 J2 h 1 (insC v C) ∧ crF I J I2 J2 h 1)) [.ref h, .int (nI 1), .int (nI ub), .int (nI ab)].toArray s 0 0 A) (F0 m 241 ls []) := by
                      intro n241
                      induction n241 with
                      | zero => intro y2 Z2 J11 hn241 hy2 v1 v2; exact absurd hn241 (by omega)
                      | succ n241 ih241 =>
                        intro y2 Z2 J11 hn241 hy2 v1 v2 Hl lcl hP hS ls hl
                        refine lv_iload hx hb dX5_put_241 (lv_at hl 5 rfl) ?_
                        refine lv_iconst (v := nI 4) hx hb dX5_put_243 (by decide) ?_
                        refine lv_icmp_ge (tgt := 272) hx hb dX5_put_244 (by decide) (fun c244 => ?_) (fun c244 => ?_)
                        · have c244 := (nI_leI (by omega) (by omega)).mp c244
                          refine g_retcv hC hS ?_ dX5_put_272
                          have ey : y2 = 4 := (by omega)
                          subst ey
                          exact ⟨rfl, _, _, hP, put_fin (by decide) hcr hrd (by omega) hc79 eu ea s1 s2 s3 (by rw [hI51, hI47, hI39]) (by rw [v1, hJ43]; rfl) v2 ei⟩
                        · have c244 := mt (nI_leI (by omega) (by omega)).mpr c244
                          refine lv_aload_n hx hb dX5_put_247 rfl (lv_at hl 0 rfl) ?_
                          refine g_get hC hP hm.1 rfl inX5 10 (by decide) q3_16 hm.2.2.2.2.2.2.2.2.1.1 dX5_put_248 ?_
                          refine lv_iconst (v := nI 4) hx hb dX5_put_251 (by decide) ?_
                          refine lv_iload hx hb dX5_put_252 (lv_at hl 4 rfl) ?_
                          refine lv_imul hx hb dX5_put_254 ?_
                          refine g_topi (y := nI (4 * (80 * 1 + a))) (nI_mul _ _) ?_
                          refine lv_iload hx hb dX5_put_255 (lv_at hl 5 rfl) ?_
                          refine lv_iadd hx hb dX5_put_257 ?_
                          refine g_topi (y := nI (4 * (80 * 1 + a) + y2)) (nI_add _ _) ?_
                          refine lv_aload_n hx hb dX5_put_258 rfl (lv_at hl 0 rfl) ?_
                          refine g_get hC hP hm.1 rfl inX5 17 (by decide) q3_23 hm.2.2.2.2.2.2.2.2.2.2.2.2.2.2.2.1.1 dX5_put_259 ?_
                          refine lv_iload hx hb dX5_put_262 (lv_at hl 5 rfl) ?_
                          refine g_lald hC hP hm.2.2.2.2.2.2.2.2.2.2.2.2.2.2.2.1.2 (vp_in_nI (by omega) (by decide)) dX5_put_264 ?_
                          refine g_topl (y := J (h + 15) y2) ((congrArg (J11 (h + 15)) (nI_clamp (by omega))).trans (by rw [v1, gu_ne _ _ (by omega), hJ43, au_ne _ _ _ (by omega), s2 _ (by omega) (by omega)])) ?_
                          refine g_last hC hP hS hTA hm.2.2.2.2.2.2.2.2.1.2 (vp_in_nI (by omega) (by decide)) dX5_put_265 (fun H53 locs54 hP hS hz56 => ?_)
                          rw [show (nI (4 * (80 * 1 + a) + y2)).toNatClampNeg = 4 * (80 * 1 + a) + y2 from nI_clamp (by omega)] at hP
                          obtain ⟨J55, hJ55, hP⟩ : ∃ X : gJ, X = au J11 (h + 8) (4 * (80 * 1 + a) + y2) (J (h + 15) y2) ∧ gP G T I51 X Q O H53 := ⟨_, rfl, hP⟩
                          refine lv_iinc (v := nI (y2 + 1)) (lv' := [(5, .int (nI (y2 + 1))), (0, .ref h), (1, .int (nI 1)), (2, .int (nI ub)), (3, .int (nI ab)), (4, .int (nI (80 * 1 + a)))]) hx hb dX5_put_266 hl (k := 5) rfl (nI_inc _) (by decide) rfl (fun ls hl => ?_)
                          refine lv_goto (tgt := 241) hx hb dX5_put_269 (by decide) ?_
                          exact ih241 (y2 + 1) (gu Z2 (4 * (80 * 1 + a) + y2) (J (h + 15) y2)) J55 (by omega) (by omega) (by rw [hJ55, v1, au_gu]) (z_t v2) _ _ hP hS ls (lv_sub hl [1, 2, 3, 4, 5, 0] rfl)
                    exact L241 5 0 (J43 (h + 8)) J43 (by omega) (by omega) (gu_self _ _).symm (fun i => by rw [if_neg (by omega), hJ43, au_ne _ _ _ (by omega)]) _ _ hP hS ls (lv_sub hl [1, 2, 3, 4, 5, 0] rfl)
                  · have c80 := mt (nI_leI (by omega) (by omega)).mpr c80
                    refine lv_aload_n hx hb dX5_put_83 rfl (lv_at hl 0 rfl) ?_
                    refine g_get hC hP hm.1 rfl inX5 11 (by decide) q3_17 hm.2.2.2.2.2.2.2.2.2.1.1 dX5_put_84 ?_
                    refine lv_iload hx hb dX5_put_87 (lv_at hl 5 rfl) ?_
                    refine lv_aload_n hx hb dX5_put_89 rfl (lv_at hl 0 rfl) ?_
                    refine g_get hC hP hm.1 rfl inX5 11 (by decide) q3_17 hm.2.2.2.2.2.2.2.2.2.1.1 dX5_put_90 ?_
                    refine lv_iload hx hb dX5_put_93 (lv_at hl 5 rfl) ?_
                    refine lv_iconst (v := nI 1) hx hb dX5_put_95 (by decide) ?_
                    refine lv_isub hx hb dX5_put_96 ?_
                    refine g_topi (y := nI (80 * 1 + b - 1)) (nI_subn (by omega)) ?_
                    refine g_lald hC hP hm.2.2.2.2.2.2.2.2.2.1.2 (vp_in_nI (by omega) (by decide)) dX5_put_97 ?_
                    refine g_topl (y := J9 (h + 9) (80 * 1 + b - 1)) (congrArg (J9 (h + 9)) (nI_clamp (by omega))) ?_
                    refine g_last hC hP hS hTA hm.2.2.2.2.2.2.2.2.2.1.2 (vp_in_nI (by omega) (by decide)) dX5_put_98 (fun H57 locs58 hP hS hz60 => ?_)
                    rw [show (nI (80 * 1 + b)).toNatClampNeg = 80 * 1 + b from nI_clamp (by omega)] at hP
                    obtain ⟨J59, hJ59, hP⟩ : ∃ X : gJ, X = au J9 (h + 9) (80 * 1 + b) (J9 (h + 9) (80 * 1 + b - 1)) ∧ gP G T I9 X Q O H57 := ⟨_, rfl, hP⟩
                    refine lv_aload_n hx hb dX5_put_99 rfl (lv_at hl 0 rfl) ?_
                    refine g_get hC hP hm.1 rfl inX5 12 (by decide) q3_18 hm.2.2.2.2.2.2.2.2.2.2.1.1 dX5_put_100 ?_
                    refine lv_iload hx hb dX5_put_103 (lv_at hl 5 rfl) ?_
                    refine lv_aload_n hx hb dX5_put_105 rfl (lv_at hl 0 rfl) ?_
                    refine g_get hC hP hm.1 rfl inX5 12 (by decide) q3_18 hm.2.2.2.2.2.2.2.2.2.2.1.1 dX5_put_106 ?_
                    refine lv_iload hx hb dX5_put_109 (lv_at hl 5 rfl) ?_
                    refine lv_iconst (v := nI 1) hx hb dX5_put_111 (by decide) ?_
                    refine lv_isub hx hb dX5_put_112 ?_
                    refine g_topi (y := nI (80 * 1 + b - 1)) (nI_subn (by omega)) ?_
                    refine g_iald hC hP hm.2.2.2.2.2.2.2.2.2.2.1.2 (vp_in_nI (by omega) (by decide)) dX5_put_113 ?_
                    refine g_topi (y := I9 (h + 10) (80 * 1 + b - 1)) (congrArg (I9 (h + 10)) (nI_clamp (by omega))) ?_
                    refine g_iast hC hP hS hTA hm.2.2.2.2.2.2.2.2.2.2.1.2 (vp_in_nI (by omega) (by decide)) dX5_put_114 (fun H61 locs62 hP hS hz64 => ?_)
                    rw [show (nI (80 * 1 + b)).toNatClampNeg = 80 * 1 + b from nI_clamp (by omega)] at hP
                    obtain ⟨I63, hI63, hP⟩ : ∃ X : gI, X = au I9 (h + 10) (80 * 1 + b) (I9 (h + 10) (80 * 1 + b - 1)) ∧ gP G T X J59 Q O H61 := ⟨_, rfl, hP⟩
                    refine lv_aload_n hx hb dX5_put_115 rfl (lv_at hl 0 rfl) ?_
                    refine g_get hC hP hm.1 rfl inX5 13 (by decide) q3_19 hm.2.2.2.2.2.2.2.2.2.2.2.1.1 dX5_put_116 ?_
                    refine lv_iload hx hb dX5_put_119 (lv_at hl 5 rfl) ?_
                    refine lv_aload_n hx hb dX5_put_121 rfl (lv_at hl 0 rfl) ?_
                    refine g_get hC hP hm.1 rfl inX5 13 (by decide) q3_19 hm.2.2.2.2.2.2.2.2.2.2.2.1.1 dX5_put_122 ?_
                    refine lv_iload hx hb dX5_put_125 (lv_at hl 5 rfl) ?_
                    refine lv_iconst (v := nI 1) hx hb dX5_put_127 (by decide) ?_
                    refine lv_isub hx hb dX5_put_128 ?_
                    refine g_topi (y := nI (80 * 1 + b - 1)) (nI_subn (by omega)) ?_
                    refine g_iald hC hP hm.2.2.2.2.2.2.2.2.2.2.2.1.2 (vp_in_nI (by omega) (by decide)) dX5_put_129 ?_
                    refine g_topi (y := I63 (h + 11) (80 * 1 + b - 1)) (congrArg (I63 (h + 11)) (nI_clamp (by omega))) ?_
                    refine g_iast hC hP hS hTA hm.2.2.2.2.2.2.2.2.2.2.2.1.2 (vp_in_nI (by omega) (by decide)) dX5_put_130 (fun H65 locs66 hP hS hz68 => ?_)
                    rw [show (nI (80 * 1 + b)).toNatClampNeg = 80 * 1 + b from nI_clamp (by omega)] at hP
                    obtain ⟨I67, hI67, hP⟩ : ∃ X : gI, X = au I63 (h + 11) (80 * 1 + b) (I63 (h + 11) (80 * 1 + b - 1)) ∧ gP G T X J59 Q O H65 := ⟨_, rfl, hP⟩
                    refine lv_iconst (v := nI 0) hx hb dX5_put_131 (by decide) ?_
                    refine lv_istore (lv' := [(6, .int (nI 0)), (0, .ref h), (1, .int (nI 1)), (2, .int (nI ub)), (3, .int (nI ab)), (4, .int (nI (80 * 1 + a))), (5, .int (nI (80 * 1 + b)))]) hx hb dX5_put_132 hl (by decide) rfl (fun ls hl => ?_)
                    have L134 : ∀ (n134 : Nat) (y : Nat) (Z : Nat → Int64) (J10 : gJ), 5 ≤ n134 + y → (y ≤ 4) → (J10 = gu J59 (h + 8) Z) → (∀ i, Z i = if 4 * (80 * 1 + b) ≤ i ∧ i < 4 * (80 * 1 + b) + y then J59 (h + 8) (i - 4) else J59 (h + 8) i) → ∀ (Hl : Heap) (lcl : List Loc), gP G T I67 J10 Q O Hl → va_S A s.heap Hl lcl → ∀ ls : Array Slot, lv_has ls 7 [(0, .ref h), (1, .int (nI 1)), (2, .int (nI ub)), (3, .int (nI ab)), (4, .int (nI (80 * 1 + a))), (5, .int (nI (80 * 1 + b))), (6, .int (nI y))] → W p l e ({ frames := 1, cells := 0, slots := 0, locals := 28 } : Room) s m [.ref h, .int (nI 1), .int (nI ub), .int (nI ab)].toArray below meth c Hl lcl 0 0 (MQ below (gQc A (fun r H1 => r = none ∧ ∃ (I2 : gI) (J2 : gJ), gP G T I2 J2 Q O H1 ∧ crR I2 J2 h 1 (insC v C) ∧ crF I J I2 J2 h 1)) [.ref h, .int (nI 1), .int (nI ub), .int (nI ab)].toArray s 0 0 A) (F0 m 134 ls []) := by
                      intro n134
                      induction n134 with
                      | zero => intro y Z J10 hn134 hy t1 t2; exact absurd hn134 (by omega)
                      | succ n134 ih134 =>
                        intro y Z J10 hn134 hy t1 t2 Hl lcl hP hS ls hl
                        refine lv_iload hx hb dX5_put_134 (lv_at hl 6 rfl) ?_
                        refine lv_iconst (v := nI 4) hx hb dX5_put_136 (by decide) ?_
                        refine lv_icmp_ge (tgt := 172) hx hb dX5_put_137 (by decide) (fun c137 => ?_) (fun c137 => ?_)
                        · have c137 := (nI_leI (by omega) (by omega)).mp c137
                          have ey : y = 4 := by omega
                          rw [ey] at t2
                          have ns3 := row_s (h := h) (k := 80 * 1 + b) (hi := 80 * 1 + C.1) hJ59 hI63 hI67 t1 t2 (by omega) (by omega) s3
                          rw [show 80 * 1 + b - 1 = 80 * 1 + (b - 1) from by omega] at ns3
                          have ns1 : ∀ q, q ≠ h + 10 → q ≠ h + 11 → I67 q = I q := fun q q1 q2 => by rw [hI67, au_ne _ _ _ q2, hI63, au_ne _ _ _ q1]; exact s1 q q1 q2
                          have ns2 : ∀ q, q ≠ h + 8 → q ≠ h + 9 → J10 q = J q := fun q q1 q2 => by rw [t1, gu_ne _ _ q1, hJ59, au_ne _ _ _ q2]; exact s2 q q1 q2
                          refine lv_iinc (v := nI (80 * 1 + (b - 1))) (lv' := [(5, .int (nI (80 * 1 + (b - 1)))), (0, .ref h), (1, .int (nI 1)), (2, .int (nI ub)), (3, .int (nI ab)), (4, .int (nI (80 * 1 + a))), (6, .int (nI y))]) hx hb dX5_put_172 hl (k := 5) rfl ((nI_dec (by omega)).trans (congrArg nI (by omega))) (by decide) rfl (fun ls hl => ?_)
                          refine lv_goto (tgt := 76) hx hb dX5_put_175 (by decide) ?_
                          exact ih76 (b - 1) I67 J10 (by omega) (by omega) ns1 ns2 ns3 _ _ hP hS ls (lv_sub hl [1, 2, 3, 4, 5, 0] rfl)
                        · have c137 := mt (nI_leI (by omega) (by omega)).mpr c137
                          refine lv_aload_n hx hb dX5_put_140 rfl (lv_at hl 0 rfl) ?_
                          refine g_get hC hP hm.1 rfl inX5 10 (by decide) q3_16 hm.2.2.2.2.2.2.2.2.1.1 dX5_put_141 ?_
                          refine lv_iconst (v := nI 4) hx hb dX5_put_144 (by decide) ?_
                          refine lv_iload hx hb dX5_put_145 (lv_at hl 5 rfl) ?_
                          refine lv_imul hx hb dX5_put_147 ?_
                          refine g_topi (y := nI (4 * (80 * 1 + b))) (nI_mul _ _) ?_
                          refine lv_iload hx hb dX5_put_148 (lv_at hl 6 rfl) ?_
                          refine lv_iadd hx hb dX5_put_150 ?_
                          refine g_topi (y := nI (4 * (80 * 1 + b) + y)) (nI_add _ _) ?_
                          refine lv_aload_n hx hb dX5_put_151 rfl (lv_at hl 0 rfl) ?_
                          refine g_get hC hP hm.1 rfl inX5 10 (by decide) q3_16 hm.2.2.2.2.2.2.2.2.1.1 dX5_put_152 ?_
                          refine lv_iconst (v := nI 4) hx hb dX5_put_155 (by decide) ?_
                          refine lv_iload hx hb dX5_put_156 (lv_at hl 5 rfl) ?_
                          refine lv_imul hx hb dX5_put_158 ?_
                          refine g_topi (y := nI (4 * (80 * 1 + b))) (nI_mul _ _) ?_
                          refine lv_iconst (v := nI 4) hx hb dX5_put_159 (by decide) ?_
                          refine lv_isub hx hb dX5_put_160 ?_
                          refine g_topi (y := nI (4 * (80 * 1 + b) - 4)) (nI_subn (by omega)) ?_
                          refine lv_iload hx hb dX5_put_161 (lv_at hl 6 rfl) ?_
                          refine lv_iadd hx hb dX5_put_163 ?_
                          refine g_topi (y := nI (4 * (80 * 1 + b) - 4 + y)) (nI_add _ _) ?_
                          refine g_lald hC hP hm.2.2.2.2.2.2.2.2.1.2 (vp_in_nI (by omega) (by decide)) dX5_put_164 ?_
                          refine g_topl (y := J59 (h + 8) (4 * (80 * 1 + b) - 4 + y)) ((congrArg (J10 (h + 8)) (nI_clamp (by omega))).trans (by rw [t1, gu_eq, t2, if_neg (by omega)])) ?_
                          refine g_last hC hP hS hTA hm.2.2.2.2.2.2.2.2.1.2 (vp_in_nI (by omega) (by decide)) dX5_put_165 (fun H69 locs70 hP hS hz72 => ?_)
                          rw [show (nI (4 * (80 * 1 + b) + y)).toNatClampNeg = 4 * (80 * 1 + b) + y from nI_clamp (by omega)] at hP
                          obtain ⟨J71, hJ71, hP⟩ : ∃ X : gJ, X = au J10 (h + 8) (4 * (80 * 1 + b) + y) (J59 (h + 8) (4 * (80 * 1 + b) - 4 + y)) ∧ gP G T I67 X Q O H69 := ⟨_, rfl, hP⟩
                          refine lv_iinc (v := nI (y + 1)) (lv' := [(6, .int (nI (y + 1))), (0, .ref h), (1, .int (nI 1)), (2, .int (nI ub)), (3, .int (nI ab)), (4, .int (nI (80 * 1 + a))), (5, .int (nI (80 * 1 + b)))]) hx hb dX5_put_166 hl (k := 6) rfl (nI_inc _) (by decide) rfl (fun ls hl => ?_)
                          refine lv_goto (tgt := 134) hx hb dX5_put_169 (by decide) ?_
                          exact ih134 (y + 1) (gu Z (4 * (80 * 1 + b) + y) (J59 (h + 8) (4 * (80 * 1 + b) - 4 + y))) J71 (by omega) (by omega) (by rw [hJ71, t1, au_gu]) (z_s (by omega) t2) _ _ hP hS ls (lv_sub hl [1, 2, 3, 4, 5, 6, 0] rfl)
                    exact L134 5 0 (J59 (h + 8)) J59 (by omega) (by omega) (gu_self _ _).symm (fun i => (if_neg (by omega)).symm) _ _ hP hS ls (lv_sub hl [1, 2, 3, 4, 5, 6, 0] rfl)
              exact L76 (C.1 + 1) C.1 I J (by omega) (by omega) (fun q _ _ => rfl) (fun q _ _ => rfl) (fun x => by rw [if_neg (by omega)]; exact rowI_rf I J h x) _ _ hP hS ls (lv_sub hl [1, 2, 3, 4, 5, 0] rfl)
            · refine g_retcv hC hS ?_ dX5_put_62
              exact ⟨rfl, I, J, hP, by rw [insC_dup ha9 (ord_eq0 c59)]; exact hcr, crF_rf I J h 1⟩
        · have c28 := ord_nge c28
          refine lv_iinc (v := nI (80 * 1 + a + 1)) (lv' := [(4, .int (nI (80 * 1 + a + 1))), (0, .ref h), (1, .int (nI 1)), (2, .int (nI ub)), (3, .int (nI ab))]) hx hb dX5_put_31 hl (k := 4) rfl (nI_inc _) (by decide) rfl (fun ls hl => ?_)
          refine lv_goto (tgt := 6) hx hb dX5_put_34 (by decide) ?_
          exact ih6 (a + 1) (by omega) (by omega) (fun j hj => by rcases Nat.lt_succ_iff_lt_or_eq.mp hj with q | rfl; (exact h1 j q); (exact c28)) _ _ hP hS ls (lv_sub hl [1, 2, 3, 4, 0] rfl)
  exact L6 81 0 (by omega) (by omega) (fun j hj => absurd hj (Nat.not_lt_zero j)) _ _ hP hS ls (lv_sub hl [1, 2, 3, 4, 0] rfl)
