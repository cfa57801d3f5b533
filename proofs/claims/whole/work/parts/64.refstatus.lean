/-! ===== the reference: status ===== -/
def rA (u : Nat → Bool) : Nat → Bool
  | 0 => true
  | k + 1 => rA u k && u k
def dA (t : Nat → Nat → Bool) (n : Nat) : Nat → Bool
  | 0 => true
  | i + 1 => dA t n i && rA (t i) n
theorem rA_iff {u : Nat → Bool} : ∀ n, rA u n = true ↔ ∀ k, k < n → u k = true
  | 0 => ⟨fun _ k hk => absurd hk (Nat.not_lt_zero k), fun _ => rfl⟩
  | n + 1 => by
    show (rA u n && u n) = true ↔ _
    rw [Bool.and_eq_true, rA_iff n]
    constructor
    · rintro ⟨a, b⟩ k hk
      rcases Nat.lt_succ_iff_lt_or_eq.mp hk with q | rfl
      · exact a k q
      · exact b
    · intro h
      exact ⟨fun k hk => h k (by omega), h n (by omega)⟩
theorem dA_iff {t : Nat → Nat → Bool} {n : Nat} : ∀ m, dA t n m = true ↔ ∀ i k, i < m → k < n → t i k = true
  | 0 => ⟨fun _ i k hi => absurd hi (Nat.not_lt_zero i), fun _ => rfl⟩
  | m + 1 => by
    show (dA t n m && rA (t m) n) = true ↔ _
    rw [Bool.and_eq_true, dA_iff m, rA_iff]
    constructor
    · rintro ⟨a, b⟩ i k hi hk
      rcases Nat.lt_succ_iff_lt_or_eq.mp hi with q | rfl
      · exact a i k q hk
      · exact b k hk
    · intro h
      exact ⟨fun i k hi hk => h i k (by omega) hk, fun k hk => h m k (by omega) hk⟩
/-- pays of choices that aren't there are 0 -/
def zOut (st : GS) : Prop := ∀ i k, i < 4 → k < 4 → gsm st ≤ i ∨ gsn st ≤ k → gsP0 st (i * 4 + k) = 0 ∧ gsP1 st (k * 4 + i) = 0
def tzB (st : GS) (i k : Nat) : Bool := decide (gsP0 st (i * 4 + k) + gsP1 st (k * 4 + i) = 0)
def tsB (st : GS) (i k : Nat) : Bool := decide (gsP1 st (k * 4 + i) = gsP0 st (k * 4 + i))
theorem st_zero {st : GS} (hm : 1 ≤ gsm st ∧ gsm st ≤ 4) (hn : 1 ≤ gsn st ∧ gsn st ≤ 4) (hz : zOut st) : dA (tzB st) 4 4 = zeroB (gsP0 st) (gsP1 st) (gsm st) (gsn st) := by
  rw [Bool.eq_iff_iff, dA_iff, zeroB_iff]
  constructor
  · intro h i hi k hk
    exact of_decide_eq_true (h i k (by omega) (by omega))
  · intro h i k hi hk
    apply decide_eq_true
    by_cases c : gsm st ≤ i ∨ gsn st ≤ k
    · rw [(hz i k hi hk c).1, (hz i k hi hk c).2]; rfl
    · exact h i (by omega) k (by omega)
theorem st_like {st : GS} : (decide (gsm st = gsn st) && dA (tsB st) 4 4) = likeB (gsP0 st) (gsP1 st) (gsm st) (gsn st) := by
  rw [Bool.eq_iff_iff, Bool.and_eq_true, dA_iff, likeB_iff, decide_eq_true_eq]
  constructor
  · rintro ⟨a, h⟩
    refine ⟨a, fun j hj => ?_⟩
    have := of_decide_eq_true (h (j % 4) (j / 4) (by omega) (by omega))
    rw [show j / 4 * 4 + j % 4 = j from by omega] at this
    exact this.symm
  · rintro ⟨a, h⟩
    refine ⟨a, fun i k hi hk => decide_eq_true ?_⟩
    exact (h (k * 4 + i) (by omega)).symm
theorem in11 {k : Int32} : (inL k.toInt64 11 16 = true → ¬ k ≤ nI 10 ∧ k ≤ nI 16) ∧ (inL k.toInt64 11 16 = false → k ≤ 10 ∨ 16 < k) := by
  have e1 : (11 : Int64).toInt = 11 := by decide
  have e2 : (16 : Int64).toInt = 16 := by decide
  have e3 : (nI 10).toInt = 10 := by decide
  have e4 : (nI 16).toInt = 16 := by decide
  have e5 : (10 : Int32).toInt = 10 := by decide
  have e6 : (16 : Int32).toInt = 16 := by decide
  unfold inL
  simp only [Bool.and_eq_true, Bool.and_eq_false_iff, decide_eq_true_eq, decide_eq_false_iff_not, Int64.le_iff_toInt_le, Int32.le_iff_toInt_le, Int32.lt_iff_toInt_lt, Int32.toInt_toInt64, e1, e2, e3, e4, e5, e6]
  omega
set_option maxHeartbeats 4000000 in
set_option maxRecDepth 100000 in
theorem c_X5_status (l : Launch) {G : gG} {T : gTy} {I : gI} {J : gJ} {Q : gR} {O : gO} {H : Heap} (hP : gP G T I J Q O H) {h : Nat} {st : GS} {k : Int32} (hm : isMo T O h) (hs0 : moS I h st) (hbd0 : bdP (gsP0 st)) (hbd1 : bdP (gsP1 st)) (hzo : zOut st) : Met l yX5_status (gw yX5_status cX5_status 6 (some (.int))) ({ frames := 4, cells := 0, slots := 0, locals := 103 } : Room) (gPc G H [.ref h, .int k]) (gQc (gF T H) (fun x H1 => rStatus st (fun x1 s1 => x = some (.int x1) ∧ moR G T h s1 H1) k)) 0 0 (gF T H) := by
  refine g_met [(0, .ref h), (1, .int k)] (by decide) rfl (by exact Nat.le_of_ble_eq_true rfl) ?_
  intro p e s m below meth c hC hs ls hl
  have hx := hC.1.1
  have hb := hC.1.2.1
  have hS : va_S (gF T H) s.heap H [] := hs ▸ va_S.rf
  have hTA : ∀ q, (T q).1 ≠ 0 → gF T H q := fun q h => Or.inl h
  have hA : ∀ q, s.heap.size ≤ q → gF T H q := fun q h => Or.inr (hs ▸ h)
  generalize hAe : gF T H = A at hS hTA hA ⊢
  have hms := hs0.1
  have hns := hs0.2.1
  have hcb := gsC_b hms hns
  refine lv_iconst (v := nI 1) hx hb dX5_status_0 (by decide) ?_
  refine lv_istore_n (lv' := [(2, .int (nI 1)), (0, .ref h), (1, .int k)]) hx hb dX5_status_1 rfl hl (by decide) rfl (fun ls hl => ?_)
  refine lv_aload_n hx hb dX5_status_2 rfl (lv_at hl 1 rfl) ?_
  refine g_get hC hP hm.1 rfl inX5 0 (by decide) q3_6 hm.2.1.1 dX5_status_3 ?_
  refine lv_iconst (v := nI 0) hx hb dX5_status_6 (by decide) ?_
  refine g_iald hC hP hm.2.1.2 (vp_in_nI (by omega) (by decide)) dX5_status_7 ?_
  refine g_topi (y := nI (gsm st)) hs0.2.2.1 ?_
  refine lv_aload_n hx hb dX5_status_8 rfl (lv_at hl 1 rfl) ?_
  refine g_get hC hP hm.1 rfl inX5 0 (by decide) q3_6 hm.2.1.1 dX5_status_9 ?_
  refine lv_iconst (v := nI 1) hx hb dX5_status_12 (by decide) ?_
  refine g_iald hC hP hm.2.1.2 (vp_in_nI (by omega) (by decide)) dX5_status_13 ?_
  refine g_topi (y := nI (gsn st)) hs0.2.2.2.1 ?_
  refine lv_icmp_ne (tgt := 21) hx hb dX5_status_14 (by decide) (fun c14 => ?_) (fun c14 => ?_)
  · have c14 := mt (nI_eq (by omega) (by omega)).mpr c14
    refine lv_iconst (v := nI 0) hx hb dX5_status_21 (by decide) ?_
    refine lv_istore_n (lv' := [(3, .int (nI 0)), (2, .int (nI 1)), (0, .ref h), (1, .int k)]) hx hb dX5_status_22 rfl hl (by decide) rfl (fun ls hl => ?_)
    refine lv_iconst (v := nI 0) hx hb dX5_status_23 (by decide) ?_
    refine lv_istore (lv' := [(4, .int (nI 0)), (3, .int (nI 0)), (2, .int (nI 1)), (0, .ref h), (1, .int k)]) hx hb dX5_status_24 hl (by decide) rfl (fun ls hl => ?_)
    have L26 : ∀ (n26 : Nat) (z : Nat) (ze : Bool) (sa : Bool), 5 ≤ n26 + z → (z ≤ 4) → (ze = dA (tzB st) 4 z) → (sa = (decide (gsm st = gsn st) && dA (tsB st) 4 z)) → ∀ (Hl : Heap) (lcl : List Loc), gP G T I J Q O Hl → va_S A s.heap Hl lcl → ∀ ls : Array Slot, lv_has ls 6 [(0, .ref h), (1, .int k), (2, .int (gb ze)), (3, .int (gb sa)), (4, .int (nI z))] → W p l e ({ frames := 4, cells := 0, slots := 0, locals := 103 } : Room) s m [.ref h, .int k].toArray below meth c Hl lcl 0 0 (MQ below (gQc A (fun x H1 => rStatus st (fun x1 s1 => x = some (.int x1) ∧ moR G T h s1 H1) k)) [.ref h, .int k].toArray s 0 0 A) (F0 m 26 ls []) := by
      intro n26
      induction n26 with
      | zero => intro z ze sa hn26 hz h1 h2; exact absurd hn26 (by omega)
      | succ n26 ih26 =>
        intro z ze sa hn26 hz h1 h2 Hl lcl hP hS ls hl
        refine lv_iload hx hb dX5_status_26 (lv_at hl 4 rfl) ?_
        refine lv_iconst (v := nI 4) hx hb dX5_status_28 (by decide) ?_
        refine lv_icmp_ge (tgt := 134) hx hb dX5_status_29 (by decide) (fun c29 => ?_) (fun c29 => ?_)
        · have c29 := (nI_leI (by omega) (by omega)).mp c29
          rw [show z = 4 from by omega] at h1 h2
          rw [st_zero hms hns hzo] at h1
          rw [st_like] at h2
          refine lv_iload_n hx hb dX5_status_134 rfl (lv_at hl 1 rfl) ?_
          by_cases hsw0 : k = 0
          · refine lv_tableIn (tgt := 168) (off := 33) hx hb dX5_status_135 (by rw [hsw0]; decide) (by rw [hsw0]; decide) (by rw [hsw0]; decide) (by decide) ?_
            refine lv_aload_n hx hb dX5_status_168 rfl (lv_at hl 0 rfl) ?_
            refine g_get hC hP hm.1 rfl inX5 0 (by decide) q3_6 hm.2.1.1 dX5_status_169 ?_
            refine lv_iconst (v := nI 0) hx hb dX5_status_172 (by decide) ?_
            refine g_iald hC hP hm.2.1.2 (vp_in_nI (by omega) (by decide)) dX5_status_173 ?_
            refine g_topi (y := nI (gsm st)) hs0.2.2.1 ?_
            refine g_retci hC hS ?_ dX5_status_174
            exact Or.inl ⟨hsw0, rfl, mo_same hm hs0 hP⟩
          by_cases hsw1 : k = 1
          · refine lv_tableIn (tgt := 175) (off := 40) hx hb dX5_status_135 (by rw [hsw1]; decide) (by rw [hsw1]; decide) (by rw [hsw1]; decide) (by decide) ?_
            refine lv_aload_n hx hb dX5_status_175 rfl (lv_at hl 0 rfl) ?_
            refine g_get hC hP hm.1 rfl inX5 0 (by decide) q3_6 hm.2.1.1 dX5_status_176 ?_
            refine lv_iconst (v := nI 1) hx hb dX5_status_179 (by decide) ?_
            refine g_iald hC hP hm.2.1.2 (vp_in_nI (by omega) (by decide)) dX5_status_180 ?_
            refine g_topi (y := nI (gsn st)) hs0.2.2.2.1 ?_
            refine g_retci hC hS ?_ dX5_status_181
            exact Or.inr (Or.inl ⟨hsw1, rfl, mo_same hm hs0 hP⟩)
          by_cases hsw2 : k = 2
          · refine lv_tableIn (tgt := 182) (off := 47) hx hb dX5_status_135 (by rw [hsw2]; decide) (by rw [hsw2]; decide) (by rw [hsw2]; decide) (by decide) ?_
            refine lv_iload_n hx hb dX5_status_182 rfl (lv_at hl 2 rfl) ?_
            refine lv_if_eq (tgt := 190) hx hb dX5_status_183 (by decide) (fun c183 => ?_) (fun c183 => ?_)
            · have c183 := gb_f c183
              refine lv_iconst (v := nI 0) hx hb dX5_status_190 (by decide) ?_
              refine g_retci hC hS ?_ dX5_status_191
              refine Or.inr (Or.inr (Or.inl ⟨hsw2, ?_, mo_same hm hs0 hP⟩))
              rw [← h1, c183]; rfl
            · have c183 := gb_t c183
              refine lv_iconst (v := nI 1) hx hb dX5_status_186 (by decide) ?_
              refine lv_goto (tgt := 191) hx hb dX5_status_187 (by decide) ?_
              refine g_retci hC hS ?_ dX5_status_191
              refine Or.inr (Or.inr (Or.inl ⟨hsw2, ?_, mo_same hm hs0 hP⟩))
              rw [← h1, c183]; rfl
          by_cases hsw3 : k = 3
          · refine lv_tableIn (tgt := 192) (off := 57) hx hb dX5_status_135 (by rw [hsw3]; decide) (by rw [hsw3]; decide) (by rw [hsw3]; decide) (by decide) ?_
            refine lv_iload_n hx hb dX5_status_192 rfl (lv_at hl 3 rfl) ?_
            refine lv_if_eq (tgt := 200) hx hb dX5_status_193 (by decide) (fun c193 => ?_) (fun c193 => ?_)
            · have c193 := gb_f c193
              refine lv_iconst (v := nI 0) hx hb dX5_status_200 (by decide) ?_
              refine g_retci hC hS ?_ dX5_status_201
              refine Or.inr (Or.inr (Or.inr (Or.inl ⟨hsw3, ?_, mo_same hm hs0 hP⟩)))
              rw [← h2, c193]; rfl
            · have c193 := gb_t c193
              refine lv_iconst (v := nI 1) hx hb dX5_status_196 (by decide) ?_
              refine lv_goto (tgt := 201) hx hb dX5_status_197 (by decide) ?_
              refine g_retci hC hS ?_ dX5_status_201
              refine Or.inr (Or.inr (Or.inr (Or.inl ⟨hsw3, ?_, mo_same hm hs0 hP⟩)))
              rw [← h2, c193]; rfl
          by_cases hsw4 : k = 4
          · refine lv_tableIn (tgt := 202) (off := 67) hx hb dX5_status_135 (by rw [hsw4]; decide) (by rw [hsw4]; decide) (by rw [hsw4]; decide) (by decide) ?_
            refine lv_aload_n hx hb dX5_status_202 rfl (lv_at hl 0 rfl) ?_
            refine lv_iconst (v := nI 0) hx hb dX5_status_203 (by decide) ?_
            refine g_cc (g_rV (As := [.int (nI 0)]) hC hP (c_X5_findCorners_0 l hP (h := h) (by first | assumption | omega) (by first | assumption | omega) (by first | assumption | omega) (by first | assumption | omega)) hm.1 rfl ⟨q3_187, q3_184, q3_186, qs_38, q1_6⟩ dd_X5_findCorners ⟨Nat.le_of_ble_eq_true rfl, Nat.le_of_ble_eq_true rfl, rfl, rfl⟩ hl.1 rfl (Nat.le_of_ble_eq_true rfl) dX5_status_204 ⟨Nat.le_of_ble_eq_true rfl, Nat.le_of_ble_eq_true rfl⟩) hS (fun q h => h.elim (hTA q) (fun z => hA q (Nat.le_trans hS.1 z))) (fun r5 H1 locs2 hq6 hS hz3 hfr4 => ?_)
            obtain ⟨rfl, I7, J8, hP, hcr0, hf0⟩ := hq6
            have hsn0 : moS I7 h st := moS_fc hs0 hf0
            refine W.eq (g2 := F0 m 207 ls []) rfl ?_
            refine lv_aload_n hx hb dX5_status_207 rfl (lv_at hl 0 rfl) ?_
            refine lv_iconst (v := nI 1) hx hb dX5_status_208 (by decide) ?_
            refine g_cc (g_rV (As := [.int (nI 1)]) hC hP (c_X5_findCorners_1 l hP (h := h) (by first | assumption | omega) (by first | assumption | omega) (by first | assumption | omega) (by first | assumption | omega)) hm.1 rfl ⟨q3_187, q3_184, q3_186, qs_38, q1_6⟩ dd_X5_findCorners ⟨Nat.le_of_ble_eq_true rfl, Nat.le_of_ble_eq_true rfl, rfl, rfl⟩ hl.1 rfl (Nat.le_of_ble_eq_true rfl) dX5_status_209 ⟨Nat.le_of_ble_eq_true rfl, Nat.le_of_ble_eq_true rfl⟩) hS (fun q h => h.elim (hTA q) (fun z => hA q (Nat.le_trans hS.1 z))) (fun r13 H9 locs10 hq14 hS hz11 hfr12 => ?_)
            obtain ⟨rfl, I15, J16, hP, hcr1, hf1⟩ := hq14
            have hsn1 : moS I15 h st := moS_fc hsn0 hf1
            have hcr0 := crR_oth hcr0 hcb.1.1 hf1
            refine W.eq (g2 := F0 m 212 ls []) rfl ?_
            refine lv_aload_n hx hb dX5_status_212 rfl (lv_at hl 0 rfl) ?_
            refine g_get hC hP hm.1 rfl inX5 9 (by decide) q3_15 hm.2.2.2.2.2.2.2.1.1 dX5_status_213 ?_
            refine lv_iconst (v := nI 0) hx hb dX5_status_216 (by decide) ?_
            refine g_iald hC hP hm.2.2.2.2.2.2.2.1.2 (vp_in_nI (by omega) (by decide)) dX5_status_217 ?_
            refine g_topi (y := nI ((gsCr st).1)) hcr0.1 ?_
            refine lv_aload_n hx hb dX5_status_218 rfl (lv_at hl 0 rfl) ?_
            refine g_get hC hP hm.1 rfl inX5 9 (by decide) q3_15 hm.2.2.2.2.2.2.2.1.1 dX5_status_219 ?_
            refine lv_iconst (v := nI 1) hx hb dX5_status_222 (by decide) ?_
            refine g_iald hC hP hm.2.2.2.2.2.2.2.1.2 (vp_in_nI (by omega) (by decide)) dX5_status_223 ?_
            refine g_topi (y := nI ((gsCd st).1)) hcr1.1 ?_
            refine lv_iadd hx hb dX5_status_224 ?_
            refine g_topi (y := nI ((gsCr st).1 + ((gsCd st).1))) (nI_add _ _) ?_
            refine g_retci hC hS ?_ dX5_status_225
            exact Or.inr (Or.inr (Or.inr (Or.inr (Or.inl ⟨hsw4, rfl, mo_same hm hsn1 hP⟩))))
          refine lv_tableOut (tgt := 226) hx hb dX5_status_135 (g_out (by decide) (k04 hsw0 hsw1 hsw2 hsw3 hsw4)) (by decide) ?_
          refine lv_iload_n hx hb dX5_status_226 rfl (lv_at hl 1 rfl) ?_
          refine lv_i2l hx hb dX5_status_227 rfl ?_
          refine lv_ldc2 (v := (11 : Int64)) hx hb hC.1.2.2.2.1 (hC.1.2.2.2.2 _ q4_25) dX5_status_228 ?_
          refine lv_ldc2 (v := (16 : Int64)) hx hb hC.1.2.2.2.1 (hC.1.2.2.2.2 _ q4_26) dX5_status_231 ?_
          refine g_cp (g_rS (As := [.long k.toInt64, .long (11 : Int64), .long (16 : Int64)]) hC (c_X5_in l (a := k.toInt64) (b2 := (11 : Int64)) (d2 := (16 : Int64))) ⟨q3_85, q3_83, q3_84, q1_6⟩ dd_X5_in ⟨Nat.le_of_ble_eq_true rfl, Nat.le_of_ble_eq_true rfl, rfl, rfl⟩ hl.1 rfl (Nat.le_of_ble_eq_true rfl) dX5_status_234 ⟨Nat.le_of_ble_eq_true rfl, Nat.le_of_ble_eq_true rfl⟩) ?_
          refine W.eq (g2 := F0 m 237 ls [.int (gb (inL k.toInt64 (11 : Int64) (16 : Int64)))]) rfl ?_
          refine lv_if_eq (tgt := 252) hx hb dX5_status_237 (by decide) (fun c237 => ?_) (fun c237 => ?_)
          · have c237 := gb_f c237
            have c237 := in11.2 c237
            refine lv_bipush (v := (-9)) hx hb dX5_status_252 (by decide) ?_
            refine g_retci hC hS ?_ dX5_status_254
            refine Or.inr (Or.inr (Or.inr (Or.inr (Or.inr ⟨⟨hsw0, hsw1, hsw2, hsw3, hsw4⟩, ?_⟩))))
            exact Or.inl ⟨c237, rfl, mo_same hm hs0 hP⟩
          · have c237 := gb_t c237
            have c237 := in11.1 c237
            obtain ⟨j, hj1, hj6, rfl⟩ := k10 c237.1 c237.2
            refine lv_aload_n hx hb dX5_status_240 rfl (lv_at hl 0 rfl) ?_
            refine g_get hC hP hm.1 rfl inX5 3 (by decide) q3_9 hm.2.2.2.2.1.1 dX5_status_241 ?_
            refine lv_iload_n hx hb dX5_status_244 rfl (lv_at hl 1 rfl) ?_
            refine lv_bipush (v := nI 10) hx hb dX5_status_245 (by decide) ?_
            refine lv_isub hx hb dX5_status_247 ?_
            refine g_topi (y := nI (10 + j - 10)) (nI_subn (by omega)) ?_
            refine g_iald hC hP hm.2.2.2.2.1.2 (vp_in_nI (by omega) (by decide)) dX5_status_248 ?_
            refine g_topi (y := gsrf st j) ((congrArg (I (h + 4)) (nI_clamp (by omega))).trans (by rw [show 10 + j - 10 = j from by omega]; exact hs0.2.2.2.2.2.2.2.2 j (by omega))) ?_
            refine lv_goto (tgt := 254) hx hb dX5_status_249 (by decide) ?_
            refine g_retci hC hS ?_ dX5_status_254
            refine Or.inr (Or.inr (Or.inr (Or.inr (Or.inr ⟨⟨hsw0, hsw1, hsw2, hsw3, hsw4⟩, ?_⟩))))
            exact Or.inr ⟨j, hj1, hj6, rfl, rfl, mo_same hm hs0 hP⟩
        · have c29 := mt (nI_leI (by omega) (by omega)).mpr c29
          refine lv_iconst (v := nI 0) hx hb dX5_status_32 (by decide) ?_
          refine lv_istore (lv' := [(5, .int (nI 0)), (0, .ref h), (1, .int k), (2, .int (gb ze)), (3, .int (gb sa)), (4, .int (nI z))]) hx hb dX5_status_33 hl (by decide) rfl (fun ls hl => ?_)
          have L35 : ∀ (n35 : Nat) (y : Nat) (ze2 : Bool) (sa2 : Bool), 5 ≤ n35 + y → (y ≤ 4) → (ze2 = (dA (tzB st) 4 z && rA (tzB st z) y)) → (sa2 = ((decide (gsm st = gsn st) && dA (tsB st) 4 z) && rA (tsB st z) y)) → ∀ (Hl : Heap) (lcl : List Loc), gP G T I J Q O Hl → va_S A s.heap Hl lcl → ∀ ls : Array Slot, lv_has ls 6 [(0, .ref h), (1, .int k), (2, .int (gb ze2)), (3, .int (gb sa2)), (4, .int (nI z)), (5, .int (nI y))] → W p l e ({ frames := 4, cells := 0, slots := 0, locals := 103 } : Room) s m [.ref h, .int k].toArray below meth c Hl lcl 0 0 (MQ below (gQc A (fun x H1 => rStatus st (fun x1 s1 => x = some (.int x1) ∧ moR G T h s1 H1) k)) [.ref h, .int k].toArray s 0 0 A) (F0 m 35 ls []) := by
            intro n35
            induction n35 with
            | zero => intro y ze2 sa2 hn35 hy g1 g2; exact absurd hn35 (by omega)
            | succ n35 ih35 =>
              intro y ze2 sa2 hn35 hy g1 g2 Hl lcl hP hS ls hl
              refine lv_iload hx hb dX5_status_35 (lv_at hl 5 rfl) ?_
              refine lv_iconst (v := nI 4) hx hb dX5_status_37 (by decide) ?_
              refine lv_icmp_ge (tgt := 128) hx hb dX5_status_38 (by decide) (fun c38 => ?_) (fun c38 => ?_)
              · have c38 := (nI_leI (by omega) (by omega)).mp c38
                refine lv_iinc (v := nI (z + 1)) (lv' := [(4, .int (nI (z + 1))), (0, .ref h), (1, .int k), (2, .int (gb ze2)), (3, .int (gb sa2)), (5, .int (nI y))]) hx hb dX5_status_128 hl (k := 4) rfl (nI_inc _) (by decide) rfl (fun ls hl => ?_)
                refine lv_goto (tgt := 26) hx hb dX5_status_131 (by decide) ?_
                exact ih26 (z + 1) ze2 sa2 (by omega) (by omega) (by rw [g1, show y = 4 from by omega]; rfl) (by rw [g2, show y = 4 from by omega, Bool.and_assoc]; rfl) _ _ hP hS ls (lv_sub hl [1, 2, 3, 4, 0] rfl)
              · have c38 := mt (nI_leI (by omega) (by omega)).mpr c38
                refine lv_iload_n hx hb dX5_status_41 rfl (lv_at hl 2 rfl) ?_
                refine lv_if_eq (tgt := 80) hx hb dX5_status_42 (by decide) (fun c42 => ?_) (fun c42 => ?_)
                · have c42 := gb_f c42
                  refine lv_iconst (v := nI 0) hx hb dX5_status_80 (by decide) ?_
                  refine lv_istore_n (lv' := [(2, .int (nI 0)), (0, .ref h), (1, .int k), (3, .int (gb sa2)), (4, .int (nI z)), (5, .int (nI y))]) hx hb dX5_status_81 rfl hl (by decide) rfl (fun ls hl => ?_)
                  refine lv_iload_n hx hb dX5_status_82 rfl (lv_at hl 3 rfl) ?_
                  refine lv_if_eq (tgt := 120) hx hb dX5_status_83 (by decide) (fun c83 => ?_) (fun c83 => ?_)
                  · have c83 := gb_f c83
                    refine lv_iconst (v := nI 0) hx hb dX5_status_120 (by decide) ?_
                    refine lv_istore_n (lv' := [(3, .int (nI 0)), (2, .int (nI 0)), (0, .ref h), (1, .int k), (4, .int (nI z)), (5, .int (nI y))]) hx hb dX5_status_121 rfl hl (by decide) rfl (fun ls hl => ?_)
                    refine lv_iinc (v := nI (y + 1)) (lv' := [(5, .int (nI (y + 1))), (3, .int (nI 0)), (2, .int (nI 0)), (0, .ref h), (1, .int k), (4, .int (nI z))]) hx hb dX5_status_122 hl (k := 5) rfl (nI_inc _) (by decide) rfl (fun ls hl => ?_)
                    refine lv_goto (tgt := 35) hx hb dX5_status_125 (by decide) ?_
                    exact ih35 (y + 1) false false (by omega) (by omega) (by show _ = (dA (tzB st) 4 z && (rA (tzB st z) y && tzB st z y)); rw [← Bool.and_assoc, ← g1]; unfold tzB; first | (rw [c42]; rfl) | (rw [c42, decide_eq_true c73]; rfl) | (rw [c42, decide_eq_false c73]; rfl)) (by show _ = ((decide (gsm st = gsn st) && dA (tsB st) 4 z) && (rA (tsB st z) y && tsB st z y)); rw [← Bool.and_assoc, ← g2]; unfold tsB; first | (rw [c83]; rfl) | (rw [c83, decide_eq_true c113]; rfl) | (rw [c83, decide_eq_false c113]; rfl)) _ _ hP hS ls (lv_sub hl [3, 4, 2, 1, 5, 0] rfl)
                  · have c83 := gb_t c83
                    refine lv_aload_n hx hb dX5_status_86 rfl (lv_at hl 1 rfl) ?_
                    refine g_get hC hP hm.1 rfl inX5 1 (by decide) q3_7 hm.2.2.1.1 dX5_status_87 ?_
                    refine lv_bipush (v := nI 16) hx hb dX5_status_90 (by decide) ?_
                    refine lv_iconst (v := nI 4) hx hb dX5_status_92 (by decide) ?_
                    refine lv_iload hx hb dX5_status_93 (lv_at hl 4 rfl) ?_
                    refine lv_imul hx hb dX5_status_95 ?_
                    refine g_topi (y := nI (4 * z)) (nI_mul _ _) ?_
                    refine lv_iadd hx hb dX5_status_96 ?_
                    refine g_topi (y := nI (16 + (4 * z))) (nI_add _ _) ?_
                    refine lv_iload hx hb dX5_status_97 (lv_at hl 5 rfl) ?_
                    refine lv_iadd hx hb dX5_status_99 ?_
                    refine g_topi (y := nI (16 + (4 * z) + y)) (nI_add _ _) ?_
                    refine g_iald hC hP hm.2.2.1.2 (vp_in_nI (by omega) (by decide)) dX5_status_100 ?_
                    refine g_topi (y := gsP1 st (y * 4 + z)) ((congrArg (I (h + 2)) (nI_clamp (by omega))).trans (hs0.2.2.2.2.2.1 z y (by omega) (by omega))) ?_
                    refine lv_aload_n hx hb dX5_status_101 rfl (lv_at hl 1 rfl) ?_
                    refine g_get hC hP hm.1 rfl inX5 1 (by decide) q3_7 hm.2.2.1.1 dX5_status_102 ?_
                    refine lv_iconst (v := nI 4) hx hb dX5_status_105 (by decide) ?_
                    refine lv_iload hx hb dX5_status_106 (lv_at hl 5 rfl) ?_
                    refine lv_imul hx hb dX5_status_108 ?_
                    refine g_topi (y := nI (4 * y)) (nI_mul _ _) ?_
                    refine lv_iload hx hb dX5_status_109 (lv_at hl 4 rfl) ?_
                    refine lv_iadd hx hb dX5_status_111 ?_
                    refine g_topi (y := nI (4 * y + z)) (nI_add _ _) ?_
                    refine g_iald hC hP hm.2.2.1.2 (vp_in_nI (by omega) (by decide)) dX5_status_112 ?_
                    refine g_topi (y := gsP0 st (y * 4 + z)) ((congrArg (I (h + 2)) (nI_clamp (by omega))).trans (hs0.2.2.2.2.1 y z (by omega) (by omega))) ?_
                    refine lv_icmp_ne (tgt := 120) hx hb dX5_status_113 (by decide) (fun c113 => ?_) (fun c113 => ?_)
                    · refine lv_iconst (v := nI 0) hx hb dX5_status_120 (by decide) ?_
                      refine lv_istore_n (lv' := [(3, .int (nI 0)), (2, .int (nI 0)), (0, .ref h), (1, .int k), (4, .int (nI z)), (5, .int (nI y))]) hx hb dX5_status_121 rfl hl (by decide) rfl (fun ls hl => ?_)
                      refine lv_iinc (v := nI (y + 1)) (lv' := [(5, .int (nI (y + 1))), (3, .int (nI 0)), (2, .int (nI 0)), (0, .ref h), (1, .int k), (4, .int (nI z))]) hx hb dX5_status_122 hl (k := 5) rfl (nI_inc _) (by decide) rfl (fun ls hl => ?_)
                      refine lv_goto (tgt := 35) hx hb dX5_status_125 (by decide) ?_
                      exact ih35 (y + 1) false false (by omega) (by omega) (by show _ = (dA (tzB st) 4 z && (rA (tzB st z) y && tzB st z y)); rw [← Bool.and_assoc, ← g1]; unfold tzB; first | (rw [c42]; rfl) | (rw [c42, decide_eq_true c73]; rfl) | (rw [c42, decide_eq_false c73]; rfl)) (by show _ = ((decide (gsm st = gsn st) && dA (tsB st) 4 z) && (rA (tsB st z) y && tsB st z y)); rw [← Bool.and_assoc, ← g2]; unfold tsB; first | (rw [c83]; rfl) | (rw [c83, decide_eq_true c113]; rfl) | (rw [c83, decide_eq_false c113]; rfl)) _ _ hP hS ls (lv_sub hl [3, 4, 2, 1, 5, 0] rfl)
                    · refine lv_iconst (v := nI 1) hx hb dX5_status_116 (by decide) ?_
                      refine lv_goto (tgt := 121) hx hb dX5_status_117 (by decide) ?_
                      refine lv_istore_n (lv' := [(3, .int (nI 1)), (2, .int (nI 0)), (0, .ref h), (1, .int k), (4, .int (nI z)), (5, .int (nI y))]) hx hb dX5_status_121 rfl hl (by decide) rfl (fun ls hl => ?_)
                      refine lv_iinc (v := nI (y + 1)) (lv' := [(5, .int (nI (y + 1))), (3, .int (nI 1)), (2, .int (nI 0)), (0, .ref h), (1, .int k), (4, .int (nI z))]) hx hb dX5_status_122 hl (k := 5) rfl (nI_inc _) (by decide) rfl (fun ls hl => ?_)
                      refine lv_goto (tgt := 35) hx hb dX5_status_125 (by decide) ?_
                      exact ih35 (y + 1) false true (by omega) (by omega) (by show _ = (dA (tzB st) 4 z && (rA (tzB st z) y && tzB st z y)); rw [← Bool.and_assoc, ← g1]; unfold tzB; first | (rw [c42]; rfl) | (rw [c42, decide_eq_true c73]; rfl) | (rw [c42, decide_eq_false c73]; rfl)) (by show _ = ((decide (gsm st = gsn st) && dA (tsB st) 4 z) && (rA (tsB st z) y && tsB st z y)); rw [← Bool.and_assoc, ← g2]; unfold tsB; first | (rw [c83]; rfl) | (rw [c83, decide_eq_true c113]; rfl) | (rw [c83, decide_eq_false c113]; rfl)) _ _ hP hS ls (lv_sub hl [3, 4, 2, 1, 5, 0] rfl)
                · have c42 := gb_t c42
                  refine lv_aload_n hx hb dX5_status_45 rfl (lv_at hl 0 rfl) ?_
                  refine g_get hC hP hm.1 rfl inX5 1 (by decide) q3_7 hm.2.2.1.1 dX5_status_46 ?_
                  refine lv_iconst (v := nI 4) hx hb dX5_status_49 (by decide) ?_
                  refine lv_iload hx hb dX5_status_50 (lv_at hl 4 rfl) ?_
                  refine lv_imul hx hb dX5_status_52 ?_
                  refine g_topi (y := nI (4 * z)) (nI_mul _ _) ?_
                  refine lv_iload hx hb dX5_status_53 (lv_at hl 5 rfl) ?_
                  refine lv_iadd hx hb dX5_status_55 ?_
                  refine g_topi (y := nI (4 * z + y)) (nI_add _ _) ?_
                  refine g_iald hC hP hm.2.2.1.2 (vp_in_nI (by omega) (by decide)) dX5_status_56 ?_
                  refine g_topi (y := gsP0 st (z * 4 + y)) ((congrArg (I (h + 2)) (nI_clamp (by omega))).trans (hs0.2.2.2.2.1 z y (by omega) (by omega))) ?_
                  refine lv_aload_n hx hb dX5_status_57 rfl (lv_at hl 0 rfl) ?_
                  refine g_get hC hP hm.1 rfl inX5 1 (by decide) q3_7 hm.2.2.1.1 dX5_status_58 ?_
                  refine lv_bipush (v := nI 16) hx hb dX5_status_61 (by decide) ?_
                  refine lv_iconst (v := nI 4) hx hb dX5_status_63 (by decide) ?_
                  refine lv_iload hx hb dX5_status_64 (lv_at hl 4 rfl) ?_
                  refine lv_imul hx hb dX5_status_66 ?_
                  refine g_topi (y := nI (4 * z)) (nI_mul _ _) ?_
                  refine lv_iadd hx hb dX5_status_67 ?_
                  refine g_topi (y := nI (16 + (4 * z))) (nI_add _ _) ?_
                  refine lv_iload hx hb dX5_status_68 (lv_at hl 5 rfl) ?_
                  refine lv_iadd hx hb dX5_status_70 ?_
                  refine g_topi (y := nI (16 + (4 * z) + y)) (nI_add _ _) ?_
                  refine g_iald hC hP hm.2.2.1.2 (vp_in_nI (by omega) (by decide)) dX5_status_71 ?_
                  refine g_topi (y := gsP1 st (y * 4 + z)) ((congrArg (I (h + 2)) (nI_clamp (by omega))).trans (hs0.2.2.2.2.2.1 z y (by omega) (by omega))) ?_
                  refine lv_iadd hx hb dX5_status_72 ?_
                  refine lv_if_ne (tgt := 80) hx hb dX5_status_73 (by decide) (fun c73 => ?_) (fun c73 => ?_)
                  · refine lv_iconst (v := nI 0) hx hb dX5_status_80 (by decide) ?_
                    refine lv_istore_n (lv' := [(2, .int (nI 0)), (0, .ref h), (1, .int k), (3, .int (gb sa2)), (4, .int (nI z)), (5, .int (nI y))]) hx hb dX5_status_81 rfl hl (by decide) rfl (fun ls hl => ?_)
                    refine lv_iload_n hx hb dX5_status_82 rfl (lv_at hl 3 rfl) ?_
                    refine lv_if_eq (tgt := 120) hx hb dX5_status_83 (by decide) (fun c83 => ?_) (fun c83 => ?_)
                    · have c83 := gb_f c83
                      refine lv_iconst (v := nI 0) hx hb dX5_status_120 (by decide) ?_
                      refine lv_istore_n (lv' := [(3, .int (nI 0)), (2, .int (nI 0)), (0, .ref h), (1, .int k), (4, .int (nI z)), (5, .int (nI y))]) hx hb dX5_status_121 rfl hl (by decide) rfl (fun ls hl => ?_)
                      refine lv_iinc (v := nI (y + 1)) (lv' := [(5, .int (nI (y + 1))), (3, .int (nI 0)), (2, .int (nI 0)), (0, .ref h), (1, .int k), (4, .int (nI z))]) hx hb dX5_status_122 hl (k := 5) rfl (nI_inc _) (by decide) rfl (fun ls hl => ?_)
                      refine lv_goto (tgt := 35) hx hb dX5_status_125 (by decide) ?_
                      exact ih35 (y + 1) false false (by omega) (by omega) (by show _ = (dA (tzB st) 4 z && (rA (tzB st z) y && tzB st z y)); rw [← Bool.and_assoc, ← g1]; unfold tzB; first | (rw [c42]; rfl) | (rw [c42, decide_eq_true c73]; rfl) | (rw [c42, decide_eq_false c73]; rfl)) (by show _ = ((decide (gsm st = gsn st) && dA (tsB st) 4 z) && (rA (tsB st z) y && tsB st z y)); rw [← Bool.and_assoc, ← g2]; unfold tsB; first | (rw [c83]; rfl) | (rw [c83, decide_eq_true c113]; rfl) | (rw [c83, decide_eq_false c113]; rfl)) _ _ hP hS ls (lv_sub hl [3, 4, 2, 1, 5, 0] rfl)
                    · have c83 := gb_t c83
                      refine lv_aload_n hx hb dX5_status_86 rfl (lv_at hl 1 rfl) ?_
                      refine g_get hC hP hm.1 rfl inX5 1 (by decide) q3_7 hm.2.2.1.1 dX5_status_87 ?_
                      refine lv_bipush (v := nI 16) hx hb dX5_status_90 (by decide) ?_
                      refine lv_iconst (v := nI 4) hx hb dX5_status_92 (by decide) ?_
                      refine lv_iload hx hb dX5_status_93 (lv_at hl 4 rfl) ?_
                      refine lv_imul hx hb dX5_status_95 ?_
                      refine g_topi (y := nI (4 * z)) (nI_mul _ _) ?_
                      refine lv_iadd hx hb dX5_status_96 ?_
                      refine g_topi (y := nI (16 + (4 * z))) (nI_add _ _) ?_
                      refine lv_iload hx hb dX5_status_97 (lv_at hl 5 rfl) ?_
                      refine lv_iadd hx hb dX5_status_99 ?_
                      refine g_topi (y := nI (16 + (4 * z) + y)) (nI_add _ _) ?_
                      refine g_iald hC hP hm.2.2.1.2 (vp_in_nI (by omega) (by decide)) dX5_status_100 ?_
                      refine g_topi (y := gsP1 st (y * 4 + z)) ((congrArg (I (h + 2)) (nI_clamp (by omega))).trans (hs0.2.2.2.2.2.1 z y (by omega) (by omega))) ?_
                      refine lv_aload_n hx hb dX5_status_101 rfl (lv_at hl 1 rfl) ?_
                      refine g_get hC hP hm.1 rfl inX5 1 (by decide) q3_7 hm.2.2.1.1 dX5_status_102 ?_
                      refine lv_iconst (v := nI 4) hx hb dX5_status_105 (by decide) ?_
                      refine lv_iload hx hb dX5_status_106 (lv_at hl 5 rfl) ?_
                      refine lv_imul hx hb dX5_status_108 ?_
                      refine g_topi (y := nI (4 * y)) (nI_mul _ _) ?_
                      refine lv_iload hx hb dX5_status_109 (lv_at hl 4 rfl) ?_
                      refine lv_iadd hx hb dX5_status_111 ?_
                      refine g_topi (y := nI (4 * y + z)) (nI_add _ _) ?_
                      refine g_iald hC hP hm.2.2.1.2 (vp_in_nI (by omega) (by decide)) dX5_status_112 ?_
                      refine g_topi (y := gsP0 st (y * 4 + z)) ((congrArg (I (h + 2)) (nI_clamp (by omega))).trans (hs0.2.2.2.2.1 y z (by omega) (by omega))) ?_
                      refine lv_icmp_ne (tgt := 120) hx hb dX5_status_113 (by decide) (fun c113 => ?_) (fun c113 => ?_)
                      · refine lv_iconst (v := nI 0) hx hb dX5_status_120 (by decide) ?_
                        refine lv_istore_n (lv' := [(3, .int (nI 0)), (2, .int (nI 0)), (0, .ref h), (1, .int k), (4, .int (nI z)), (5, .int (nI y))]) hx hb dX5_status_121 rfl hl (by decide) rfl (fun ls hl => ?_)
                        refine lv_iinc (v := nI (y + 1)) (lv' := [(5, .int (nI (y + 1))), (3, .int (nI 0)), (2, .int (nI 0)), (0, .ref h), (1, .int k), (4, .int (nI z))]) hx hb dX5_status_122 hl (k := 5) rfl (nI_inc _) (by decide) rfl (fun ls hl => ?_)
                        refine lv_goto (tgt := 35) hx hb dX5_status_125 (by decide) ?_
                        exact ih35 (y + 1) false false (by omega) (by omega) (by show _ = (dA (tzB st) 4 z && (rA (tzB st z) y && tzB st z y)); rw [← Bool.and_assoc, ← g1]; unfold tzB; first | (rw [c42]; rfl) | (rw [c42, decide_eq_true c73]; rfl) | (rw [c42, decide_eq_false c73]; rfl)) (by show _ = ((decide (gsm st = gsn st) && dA (tsB st) 4 z) && (rA (tsB st z) y && tsB st z y)); rw [← Bool.and_assoc, ← g2]; unfold tsB; first | (rw [c83]; rfl) | (rw [c83, decide_eq_true c113]; rfl) | (rw [c83, decide_eq_false c113]; rfl)) _ _ hP hS ls (lv_sub hl [3, 4, 2, 1, 5, 0] rfl)
                      · refine lv_iconst (v := nI 1) hx hb dX5_status_116 (by decide) ?_
                        refine lv_goto (tgt := 121) hx hb dX5_status_117 (by decide) ?_
                        refine lv_istore_n (lv' := [(3, .int (nI 1)), (2, .int (nI 0)), (0, .ref h), (1, .int k), (4, .int (nI z)), (5, .int (nI y))]) hx hb dX5_status_121 rfl hl (by decide) rfl (fun ls hl => ?_)
                        refine lv_iinc (v := nI (y + 1)) (lv' := [(5, .int (nI (y + 1))), (3, .int (nI 1)), (2, .int (nI 0)), (0, .ref h), (1, .int k), (4, .int (nI z))]) hx hb dX5_status_122 hl (k := 5) rfl (nI_inc _) (by decide) rfl (fun ls hl => ?_)
                        refine lv_goto (tgt := 35) hx hb dX5_status_125 (by decide) ?_
                        exact ih35 (y + 1) false true (by omega) (by omega) (by show _ = (dA (tzB st) 4 z && (rA (tzB st z) y && tzB st z y)); rw [← Bool.and_assoc, ← g1]; unfold tzB; first | (rw [c42]; rfl) | (rw [c42, decide_eq_true c73]; rfl) | (rw [c42, decide_eq_false c73]; rfl)) (by show _ = ((decide (gsm st = gsn st) && dA (tsB st) 4 z) && (rA (tsB st z) y && tsB st z y)); rw [← Bool.and_assoc, ← g2]; unfold tsB; first | (rw [c83]; rfl) | (rw [c83, decide_eq_true c113]; rfl) | (rw [c83, decide_eq_false c113]; rfl)) _ _ hP hS ls (lv_sub hl [3, 4, 2, 1, 5, 0] rfl)
                  · refine lv_iconst (v := nI 1) hx hb dX5_status_76 (by decide) ?_
                    refine lv_goto (tgt := 81) hx hb dX5_status_77 (by decide) ?_
                    refine lv_istore_n (lv' := [(2, .int (nI 1)), (0, .ref h), (1, .int k), (3, .int (gb sa2)), (4, .int (nI z)), (5, .int (nI y))]) hx hb dX5_status_81 rfl hl (by decide) rfl (fun ls hl => ?_)
                    refine lv_iload_n hx hb dX5_status_82 rfl (lv_at hl 3 rfl) ?_
                    refine lv_if_eq (tgt := 120) hx hb dX5_status_83 (by decide) (fun c83 => ?_) (fun c83 => ?_)
                    · have c83 := gb_f c83
                      refine lv_iconst (v := nI 0) hx hb dX5_status_120 (by decide) ?_
                      refine lv_istore_n (lv' := [(3, .int (nI 0)), (2, .int (nI 1)), (0, .ref h), (1, .int k), (4, .int (nI z)), (5, .int (nI y))]) hx hb dX5_status_121 rfl hl (by decide) rfl (fun ls hl => ?_)
                      refine lv_iinc (v := nI (y + 1)) (lv' := [(5, .int (nI (y + 1))), (3, .int (nI 0)), (2, .int (nI 1)), (0, .ref h), (1, .int k), (4, .int (nI z))]) hx hb dX5_status_122 hl (k := 5) rfl (nI_inc _) (by decide) rfl (fun ls hl => ?_)
                      refine lv_goto (tgt := 35) hx hb dX5_status_125 (by decide) ?_
                      exact ih35 (y + 1) true false (by omega) (by omega) (by show _ = (dA (tzB st) 4 z && (rA (tzB st z) y && tzB st z y)); rw [← Bool.and_assoc, ← g1]; unfold tzB; first | (rw [c42]; rfl) | (rw [c42, decide_eq_true c73]; rfl) | (rw [c42, decide_eq_false c73]; rfl)) (by show _ = ((decide (gsm st = gsn st) && dA (tsB st) 4 z) && (rA (tsB st z) y && tsB st z y)); rw [← Bool.and_assoc, ← g2]; unfold tsB; first | (rw [c83]; rfl) | (rw [c83, decide_eq_true c113]; rfl) | (rw [c83, decide_eq_false c113]; rfl)) _ _ hP hS ls (lv_sub hl [3, 4, 2, 1, 5, 0] rfl)
                    · have c83 := gb_t c83
                      refine lv_aload_n hx hb dX5_status_86 rfl (lv_at hl 1 rfl) ?_
                      refine g_get hC hP hm.1 rfl inX5 1 (by decide) q3_7 hm.2.2.1.1 dX5_status_87 ?_
                      refine lv_bipush (v := nI 16) hx hb dX5_status_90 (by decide) ?_
                      refine lv_iconst (v := nI 4) hx hb dX5_status_92 (by decide) ?_
                      refine lv_iload hx hb dX5_status_93 (lv_at hl 4 rfl) ?_
                      refine lv_imul hx hb dX5_status_95 ?_
                      refine g_topi (y := nI (4 * z)) (nI_mul _ _) ?_
                      refine lv_iadd hx hb dX5_status_96 ?_
                      refine g_topi (y := nI (16 + (4 * z))) (nI_add _ _) ?_
                      refine lv_iload hx hb dX5_status_97 (lv_at hl 5 rfl) ?_
                      refine lv_iadd hx hb dX5_status_99 ?_
                      refine g_topi (y := nI (16 + (4 * z) + y)) (nI_add _ _) ?_
                      refine g_iald hC hP hm.2.2.1.2 (vp_in_nI (by omega) (by decide)) dX5_status_100 ?_
                      refine g_topi (y := gsP1 st (y * 4 + z)) ((congrArg (I (h + 2)) (nI_clamp (by omega))).trans (hs0.2.2.2.2.2.1 z y (by omega) (by omega))) ?_
                      refine lv_aload_n hx hb dX5_status_101 rfl (lv_at hl 1 rfl) ?_
                      refine g_get hC hP hm.1 rfl inX5 1 (by decide) q3_7 hm.2.2.1.1 dX5_status_102 ?_
                      refine lv_iconst (v := nI 4) hx hb dX5_status_105 (by decide) ?_
                      refine lv_iload hx hb dX5_status_106 (lv_at hl 5 rfl) ?_
                      refine lv_imul hx hb dX5_status_108 ?_
                      refine g_topi (y := nI (4 * y)) (nI_mul _ _) ?_
                      refine lv_iload hx hb dX5_status_109 (lv_at hl 4 rfl) ?_
                      refine lv_iadd hx hb dX5_status_111 ?_
                      refine g_topi (y := nI (4 * y + z)) (nI_add _ _) ?_
                      refine g_iald hC hP hm.2.2.1.2 (vp_in_nI (by omega) (by decide)) dX5_status_112 ?_
                      refine g_topi (y := gsP0 st (y * 4 + z)) ((congrArg (I (h + 2)) (nI_clamp (by omega))).trans (hs0.2.2.2.2.1 y z (by omega) (by omega))) ?_
                      refine lv_icmp_ne (tgt := 120) hx hb dX5_status_113 (by decide) (fun c113 => ?_) (fun c113 => ?_)
                      · refine lv_iconst (v := nI 0) hx hb dX5_status_120 (by decide) ?_
                        refine lv_istore_n (lv' := [(3, .int (nI 0)), (2, .int (nI 1)), (0, .ref h), (1, .int k), (4, .int (nI z)), (5, .int (nI y))]) hx hb dX5_status_121 rfl hl (by decide) rfl (fun ls hl => ?_)
                        refine lv_iinc (v := nI (y + 1)) (lv' := [(5, .int (nI (y + 1))), (3, .int (nI 0)), (2, .int (nI 1)), (0, .ref h), (1, .int k), (4, .int (nI z))]) hx hb dX5_status_122 hl (k := 5) rfl (nI_inc _) (by decide) rfl (fun ls hl => ?_)
                        refine lv_goto (tgt := 35) hx hb dX5_status_125 (by decide) ?_
                        exact ih35 (y + 1) true false (by omega) (by omega) (by show _ = (dA (tzB st) 4 z && (rA (tzB st z) y && tzB st z y)); rw [← Bool.and_assoc, ← g1]; unfold tzB; first | (rw [c42]; rfl) | (rw [c42, decide_eq_true c73]; rfl) | (rw [c42, decide_eq_false c73]; rfl)) (by show _ = ((decide (gsm st = gsn st) && dA (tsB st) 4 z) && (rA (tsB st z) y && tsB st z y)); rw [← Bool.and_assoc, ← g2]; unfold tsB; first | (rw [c83]; rfl) | (rw [c83, decide_eq_true c113]; rfl) | (rw [c83, decide_eq_false c113]; rfl)) _ _ hP hS ls (lv_sub hl [3, 4, 2, 1, 5, 0] rfl)
                      · refine lv_iconst (v := nI 1) hx hb dX5_status_116 (by decide) ?_
                        refine lv_goto (tgt := 121) hx hb dX5_status_117 (by decide) ?_
                        refine lv_istore_n (lv' := [(3, .int (nI 1)), (2, .int (nI 1)), (0, .ref h), (1, .int k), (4, .int (nI z)), (5, .int (nI y))]) hx hb dX5_status_121 rfl hl (by decide) rfl (fun ls hl => ?_)
                        refine lv_iinc (v := nI (y + 1)) (lv' := [(5, .int (nI (y + 1))), (3, .int (nI 1)), (2, .int (nI 1)), (0, .ref h), (1, .int k), (4, .int (nI z))]) hx hb dX5_status_122 hl (k := 5) rfl (nI_inc _) (by decide) rfl (fun ls hl => ?_)
                        refine lv_goto (tgt := 35) hx hb dX5_status_125 (by decide) ?_
                        exact ih35 (y + 1) true true (by omega) (by omega) (by show _ = (dA (tzB st) 4 z && (rA (tzB st z) y && tzB st z y)); rw [← Bool.and_assoc, ← g1]; unfold tzB; first | (rw [c42]; rfl) | (rw [c42, decide_eq_true c73]; rfl) | (rw [c42, decide_eq_false c73]; rfl)) (by show _ = ((decide (gsm st = gsn st) && dA (tsB st) 4 z) && (rA (tsB st z) y && tsB st z y)); rw [← Bool.and_assoc, ← g2]; unfold tsB; first | (rw [c83]; rfl) | (rw [c83, decide_eq_true c113]; rfl) | (rw [c83, decide_eq_false c113]; rfl)) _ _ hP hS ls (lv_sub hl [3, 4, 2, 1, 5, 0] rfl)
          exact L35 5 0 ze sa (by omega) (by omega) (by rw [h1]; exact (Bool.and_true _).symm) (by rw [h2]; exact (Bool.and_true _).symm) _ _ hP hS ls (lv_sub hl [1, 2, 3, 4, 5, 0] rfl)
    exact L26 5 0 true false (by omega) (by omega) rfl (by first | (rw [decide_eq_true c14]; rfl) | (rw [decide_eq_false c14]; rfl)) _ _ hP hS ls (lv_sub hl [3, 4, 2, 1, 0] rfl)
  · have c14 := (nI_eq (by omega) (by omega)).mp c14
    refine lv_iconst (v := nI 1) hx hb dX5_status_17 (by decide) ?_
    refine lv_goto (tgt := 22) hx hb dX5_status_18 (by decide) ?_
    refine lv_istore_n (lv' := [(3, .int (nI 1)), (2, .int (nI 1)), (0, .ref h), (1, .int k)]) hx hb dX5_status_22 rfl hl (by decide) rfl (fun ls hl => ?_)
    refine lv_iconst (v := nI 0) hx hb dX5_status_23 (by decide) ?_
    refine lv_istore (lv' := [(4, .int (nI 0)), (3, .int (nI 1)), (2, .int (nI 1)), (0, .ref h), (1, .int k)]) hx hb dX5_status_24 hl (by decide) rfl (fun ls hl => ?_)
    have L26 : ∀ (n26 : Nat) (z : Nat) (ze : Bool) (sa : Bool), 5 ≤ n26 + z → (z ≤ 4) → (ze = dA (tzB st) 4 z) → (sa = (decide (gsm st = gsn st) && dA (tsB st) 4 z)) → ∀ (Hl : Heap) (lcl : List Loc), gP G T I J Q O Hl → va_S A s.heap Hl lcl → ∀ ls : Array Slot, lv_has ls 6 [(0, .ref h), (1, .int k), (2, .int (gb ze)), (3, .int (gb sa)), (4, .int (nI z))] → W p l e ({ frames := 4, cells := 0, slots := 0, locals := 103 } : Room) s m [.ref h, .int k].toArray below meth c Hl lcl 0 0 (MQ below (gQc A (fun x H1 => rStatus st (fun x1 s1 => x = some (.int x1) ∧ moR G T h s1 H1) k)) [.ref h, .int k].toArray s 0 0 A) (F0 m 26 ls []) := by
      intro n26
      induction n26 with
      | zero => intro z ze sa hn26 hz h1 h2; exact absurd hn26 (by omega)
      | succ n26 ih26 =>
        intro z ze sa hn26 hz h1 h2 Hl lcl hP hS ls hl
        refine lv_iload hx hb dX5_status_26 (lv_at hl 4 rfl) ?_
        refine lv_iconst (v := nI 4) hx hb dX5_status_28 (by decide) ?_
        refine lv_icmp_ge (tgt := 134) hx hb dX5_status_29 (by decide) (fun c29 => ?_) (fun c29 => ?_)
        · have c29 := (nI_leI (by omega) (by omega)).mp c29
          rw [show z = 4 from by omega] at h1 h2
          rw [st_zero hms hns hzo] at h1
          rw [st_like] at h2
          refine lv_iload_n hx hb dX5_status_134 rfl (lv_at hl 1 rfl) ?_
          by_cases hsw0 : k = 0
          · refine lv_tableIn (tgt := 168) (off := 33) hx hb dX5_status_135 (by rw [hsw0]; decide) (by rw [hsw0]; decide) (by rw [hsw0]; decide) (by decide) ?_
            refine lv_aload_n hx hb dX5_status_168 rfl (lv_at hl 0 rfl) ?_
            refine g_get hC hP hm.1 rfl inX5 0 (by decide) q3_6 hm.2.1.1 dX5_status_169 ?_
            refine lv_iconst (v := nI 0) hx hb dX5_status_172 (by decide) ?_
            refine g_iald hC hP hm.2.1.2 (vp_in_nI (by omega) (by decide)) dX5_status_173 ?_
            refine g_topi (y := nI (gsm st)) hs0.2.2.1 ?_
            refine g_retci hC hS ?_ dX5_status_174
            exact Or.inl ⟨hsw0, rfl, mo_same hm hs0 hP⟩
          by_cases hsw1 : k = 1
          · refine lv_tableIn (tgt := 175) (off := 40) hx hb dX5_status_135 (by rw [hsw1]; decide) (by rw [hsw1]; decide) (by rw [hsw1]; decide) (by decide) ?_
            refine lv_aload_n hx hb dX5_status_175 rfl (lv_at hl 0 rfl) ?_
            refine g_get hC hP hm.1 rfl inX5 0 (by decide) q3_6 hm.2.1.1 dX5_status_176 ?_
            refine lv_iconst (v := nI 1) hx hb dX5_status_179 (by decide) ?_
            refine g_iald hC hP hm.2.1.2 (vp_in_nI (by omega) (by decide)) dX5_status_180 ?_
            refine g_topi (y := nI (gsn st)) hs0.2.2.2.1 ?_
            refine g_retci hC hS ?_ dX5_status_181
            exact Or.inr (Or.inl ⟨hsw1, rfl, mo_same hm hs0 hP⟩)
          by_cases hsw2 : k = 2
          · refine lv_tableIn (tgt := 182) (off := 47) hx hb dX5_status_135 (by rw [hsw2]; decide) (by rw [hsw2]; decide) (by rw [hsw2]; decide) (by decide) ?_
            refine lv_iload_n hx hb dX5_status_182 rfl (lv_at hl 2 rfl) ?_
            refine lv_if_eq (tgt := 190) hx hb dX5_status_183 (by decide) (fun c183 => ?_) (fun c183 => ?_)
            · have c183 := gb_f c183
              refine lv_iconst (v := nI 0) hx hb dX5_status_190 (by decide) ?_
              refine g_retci hC hS ?_ dX5_status_191
              refine Or.inr (Or.inr (Or.inl ⟨hsw2, ?_, mo_same hm hs0 hP⟩))
              rw [← h1, c183]; rfl
            · have c183 := gb_t c183
              refine lv_iconst (v := nI 1) hx hb dX5_status_186 (by decide) ?_
              refine lv_goto (tgt := 191) hx hb dX5_status_187 (by decide) ?_
              refine g_retci hC hS ?_ dX5_status_191
              refine Or.inr (Or.inr (Or.inl ⟨hsw2, ?_, mo_same hm hs0 hP⟩))
              rw [← h1, c183]; rfl
          by_cases hsw3 : k = 3
          · refine lv_tableIn (tgt := 192) (off := 57) hx hb dX5_status_135 (by rw [hsw3]; decide) (by rw [hsw3]; decide) (by rw [hsw3]; decide) (by decide) ?_
            refine lv_iload_n hx hb dX5_status_192 rfl (lv_at hl 3 rfl) ?_
            refine lv_if_eq (tgt := 200) hx hb dX5_status_193 (by decide) (fun c193 => ?_) (fun c193 => ?_)
            · have c193 := gb_f c193
              refine lv_iconst (v := nI 0) hx hb dX5_status_200 (by decide) ?_
              refine g_retci hC hS ?_ dX5_status_201
              refine Or.inr (Or.inr (Or.inr (Or.inl ⟨hsw3, ?_, mo_same hm hs0 hP⟩)))
              rw [← h2, c193]; rfl
            · have c193 := gb_t c193
              refine lv_iconst (v := nI 1) hx hb dX5_status_196 (by decide) ?_
              refine lv_goto (tgt := 201) hx hb dX5_status_197 (by decide) ?_
              refine g_retci hC hS ?_ dX5_status_201
              refine Or.inr (Or.inr (Or.inr (Or.inl ⟨hsw3, ?_, mo_same hm hs0 hP⟩)))
              rw [← h2, c193]; rfl
          by_cases hsw4 : k = 4
          · refine lv_tableIn (tgt := 202) (off := 67) hx hb dX5_status_135 (by rw [hsw4]; decide) (by rw [hsw4]; decide) (by rw [hsw4]; decide) (by decide) ?_
            refine lv_aload_n hx hb dX5_status_202 rfl (lv_at hl 0 rfl) ?_
            refine lv_iconst (v := nI 0) hx hb dX5_status_203 (by decide) ?_
            refine g_cc (g_rV (As := [.int (nI 0)]) hC hP (c_X5_findCorners_0 l hP (h := h) (by first | assumption | omega) (by first | assumption | omega) (by first | assumption | omega) (by first | assumption | omega)) hm.1 rfl ⟨q3_187, q3_184, q3_186, qs_38, q1_6⟩ dd_X5_findCorners ⟨Nat.le_of_ble_eq_true rfl, Nat.le_of_ble_eq_true rfl, rfl, rfl⟩ hl.1 rfl (Nat.le_of_ble_eq_true rfl) dX5_status_204 ⟨Nat.le_of_ble_eq_true rfl, Nat.le_of_ble_eq_true rfl⟩) hS (fun q h => h.elim (hTA q) (fun z => hA q (Nat.le_trans hS.1 z))) (fun r21 H17 locs18 hq22 hS hz19 hfr20 => ?_)
            obtain ⟨rfl, I23, J24, hP, hcr0, hf0⟩ := hq22
            have hsn0 : moS I23 h st := moS_fc hs0 hf0
            refine W.eq (g2 := F0 m 207 ls []) rfl ?_
            refine lv_aload_n hx hb dX5_status_207 rfl (lv_at hl 0 rfl) ?_
            refine lv_iconst (v := nI 1) hx hb dX5_status_208 (by decide) ?_
            refine g_cc (g_rV (As := [.int (nI 1)]) hC hP (c_X5_findCorners_1 l hP (h := h) (by first | assumption | omega) (by first | assumption | omega) (by first | assumption | omega) (by first | assumption | omega)) hm.1 rfl ⟨q3_187, q3_184, q3_186, qs_38, q1_6⟩ dd_X5_findCorners ⟨Nat.le_of_ble_eq_true rfl, Nat.le_of_ble_eq_true rfl, rfl, rfl⟩ hl.1 rfl (Nat.le_of_ble_eq_true rfl) dX5_status_209 ⟨Nat.le_of_ble_eq_true rfl, Nat.le_of_ble_eq_true rfl⟩) hS (fun q h => h.elim (hTA q) (fun z => hA q (Nat.le_trans hS.1 z))) (fun r29 H25 locs26 hq30 hS hz27 hfr28 => ?_)
            obtain ⟨rfl, I31, J32, hP, hcr1, hf1⟩ := hq30
            have hsn1 : moS I31 h st := moS_fc hsn0 hf1
            have hcr0 := crR_oth hcr0 hcb.1.1 hf1
            refine W.eq (g2 := F0 m 212 ls []) rfl ?_
            refine lv_aload_n hx hb dX5_status_212 rfl (lv_at hl 0 rfl) ?_
            refine g_get hC hP hm.1 rfl inX5 9 (by decide) q3_15 hm.2.2.2.2.2.2.2.1.1 dX5_status_213 ?_
            refine lv_iconst (v := nI 0) hx hb dX5_status_216 (by decide) ?_
            refine g_iald hC hP hm.2.2.2.2.2.2.2.1.2 (vp_in_nI (by omega) (by decide)) dX5_status_217 ?_
            refine g_topi (y := nI ((gsCr st).1)) hcr0.1 ?_
            refine lv_aload_n hx hb dX5_status_218 rfl (lv_at hl 0 rfl) ?_
            refine g_get hC hP hm.1 rfl inX5 9 (by decide) q3_15 hm.2.2.2.2.2.2.2.1.1 dX5_status_219 ?_
            refine lv_iconst (v := nI 1) hx hb dX5_status_222 (by decide) ?_
            refine g_iald hC hP hm.2.2.2.2.2.2.2.1.2 (vp_in_nI (by omega) (by decide)) dX5_status_223 ?_
            refine g_topi (y := nI ((gsCd st).1)) hcr1.1 ?_
            refine lv_iadd hx hb dX5_status_224 ?_
            refine g_topi (y := nI ((gsCr st).1 + ((gsCd st).1))) (nI_add _ _) ?_
            refine g_retci hC hS ?_ dX5_status_225
            exact Or.inr (Or.inr (Or.inr (Or.inr (Or.inl ⟨hsw4, rfl, mo_same hm hsn1 hP⟩))))
          refine lv_tableOut (tgt := 226) hx hb dX5_status_135 (g_out (by decide) (k04 hsw0 hsw1 hsw2 hsw3 hsw4)) (by decide) ?_
          refine lv_iload_n hx hb dX5_status_226 rfl (lv_at hl 1 rfl) ?_
          refine lv_i2l hx hb dX5_status_227 rfl ?_
          refine lv_ldc2 (v := (11 : Int64)) hx hb hC.1.2.2.2.1 (hC.1.2.2.2.2 _ q4_25) dX5_status_228 ?_
          refine lv_ldc2 (v := (16 : Int64)) hx hb hC.1.2.2.2.1 (hC.1.2.2.2.2 _ q4_26) dX5_status_231 ?_
          refine g_cp (g_rS (As := [.long k.toInt64, .long (11 : Int64), .long (16 : Int64)]) hC (c_X5_in l (a := k.toInt64) (b2 := (11 : Int64)) (d2 := (16 : Int64))) ⟨q3_85, q3_83, q3_84, q1_6⟩ dd_X5_in ⟨Nat.le_of_ble_eq_true rfl, Nat.le_of_ble_eq_true rfl, rfl, rfl⟩ hl.1 rfl (Nat.le_of_ble_eq_true rfl) dX5_status_234 ⟨Nat.le_of_ble_eq_true rfl, Nat.le_of_ble_eq_true rfl⟩) ?_
          refine W.eq (g2 := F0 m 237 ls [.int (gb (inL k.toInt64 (11 : Int64) (16 : Int64)))]) rfl ?_
          refine lv_if_eq (tgt := 252) hx hb dX5_status_237 (by decide) (fun c237 => ?_) (fun c237 => ?_)
          · have c237 := gb_f c237
            have c237 := in11.2 c237
            refine lv_bipush (v := (-9)) hx hb dX5_status_252 (by decide) ?_
            refine g_retci hC hS ?_ dX5_status_254
            refine Or.inr (Or.inr (Or.inr (Or.inr (Or.inr ⟨⟨hsw0, hsw1, hsw2, hsw3, hsw4⟩, ?_⟩))))
            exact Or.inl ⟨c237, rfl, mo_same hm hs0 hP⟩
          · have c237 := gb_t c237
            have c237 := in11.1 c237
            obtain ⟨j, hj1, hj6, rfl⟩ := k10 c237.1 c237.2
            refine lv_aload_n hx hb dX5_status_240 rfl (lv_at hl 0 rfl) ?_
            refine g_get hC hP hm.1 rfl inX5 3 (by decide) q3_9 hm.2.2.2.2.1.1 dX5_status_241 ?_
            refine lv_iload_n hx hb dX5_status_244 rfl (lv_at hl 1 rfl) ?_
            refine lv_bipush (v := nI 10) hx hb dX5_status_245 (by decide) ?_
            refine lv_isub hx hb dX5_status_247 ?_
            refine g_topi (y := nI (10 + j - 10)) (nI_subn (by omega)) ?_
            refine g_iald hC hP hm.2.2.2.2.1.2 (vp_in_nI (by omega) (by decide)) dX5_status_248 ?_
            refine g_topi (y := gsrf st j) ((congrArg (I (h + 4)) (nI_clamp (by omega))).trans (by rw [show 10 + j - 10 = j from by omega]; exact hs0.2.2.2.2.2.2.2.2 j (by omega))) ?_
            refine lv_goto (tgt := 254) hx hb dX5_status_249 (by decide) ?_
            refine g_retci hC hS ?_ dX5_status_254
            refine Or.inr (Or.inr (Or.inr (Or.inr (Or.inr ⟨⟨hsw0, hsw1, hsw2, hsw3, hsw4⟩, ?_⟩))))
            exact Or.inr ⟨j, hj1, hj6, rfl, rfl, mo_same hm hs0 hP⟩
        · have c29 := mt (nI_leI (by omega) (by omega)).mpr c29
          refine lv_iconst (v := nI 0) hx hb dX5_status_32 (by decide) ?_
          refine lv_istore (lv' := [(5, .int (nI 0)), (0, .ref h), (1, .int k), (2, .int (gb ze)), (3, .int (gb sa)), (4, .int (nI z))]) hx hb dX5_status_33 hl (by decide) rfl (fun ls hl => ?_)
          have L35 : ∀ (n35 : Nat) (y : Nat) (ze2 : Bool) (sa2 : Bool), 5 ≤ n35 + y → (y ≤ 4) → (ze2 = (dA (tzB st) 4 z && rA (tzB st z) y)) → (sa2 = ((decide (gsm st = gsn st) && dA (tsB st) 4 z) && rA (tsB st z) y)) → ∀ (Hl : Heap) (lcl : List Loc), gP G T I J Q O Hl → va_S A s.heap Hl lcl → ∀ ls : Array Slot, lv_has ls 6 [(0, .ref h), (1, .int k), (2, .int (gb ze2)), (3, .int (gb sa2)), (4, .int (nI z)), (5, .int (nI y))] → W p l e ({ frames := 4, cells := 0, slots := 0, locals := 103 } : Room) s m [.ref h, .int k].toArray below meth c Hl lcl 0 0 (MQ below (gQc A (fun x H1 => rStatus st (fun x1 s1 => x = some (.int x1) ∧ moR G T h s1 H1) k)) [.ref h, .int k].toArray s 0 0 A) (F0 m 35 ls []) := by
            intro n35
            induction n35 with
            | zero => intro y ze2 sa2 hn35 hy g1 g2; exact absurd hn35 (by omega)
            | succ n35 ih35 =>
              intro y ze2 sa2 hn35 hy g1 g2 Hl lcl hP hS ls hl
              refine lv_iload hx hb dX5_status_35 (lv_at hl 5 rfl) ?_
              refine lv_iconst (v := nI 4) hx hb dX5_status_37 (by decide) ?_
              refine lv_icmp_ge (tgt := 128) hx hb dX5_status_38 (by decide) (fun c38 => ?_) (fun c38 => ?_)
              · have c38 := (nI_leI (by omega) (by omega)).mp c38
                refine lv_iinc (v := nI (z + 1)) (lv' := [(4, .int (nI (z + 1))), (0, .ref h), (1, .int k), (2, .int (gb ze2)), (3, .int (gb sa2)), (5, .int (nI y))]) hx hb dX5_status_128 hl (k := 4) rfl (nI_inc _) (by decide) rfl (fun ls hl => ?_)
                refine lv_goto (tgt := 26) hx hb dX5_status_131 (by decide) ?_
                exact ih26 (z + 1) ze2 sa2 (by omega) (by omega) (by rw [g1, show y = 4 from by omega]; rfl) (by rw [g2, show y = 4 from by omega, Bool.and_assoc]; rfl) _ _ hP hS ls (lv_sub hl [1, 2, 3, 4, 0] rfl)
              · have c38 := mt (nI_leI (by omega) (by omega)).mpr c38
                refine lv_iload_n hx hb dX5_status_41 rfl (lv_at hl 2 rfl) ?_
                refine lv_if_eq (tgt := 80) hx hb dX5_status_42 (by decide) (fun c42 => ?_) (fun c42 => ?_)
                · have c42 := gb_f c42
                  refine lv_iconst (v := nI 0) hx hb dX5_status_80 (by decide) ?_
                  refine lv_istore_n (lv' := [(2, .int (nI 0)), (0, .ref h), (1, .int k), (3, .int (gb sa2)), (4, .int (nI z)), (5, .int (nI y))]) hx hb dX5_status_81 rfl hl (by decide) rfl (fun ls hl => ?_)
                  refine lv_iload_n hx hb dX5_status_82 rfl (lv_at hl 3 rfl) ?_
                  refine lv_if_eq (tgt := 120) hx hb dX5_status_83 (by decide) (fun c83 => ?_) (fun c83 => ?_)
                  · have c83 := gb_f c83
                    refine lv_iconst (v := nI 0) hx hb dX5_status_120 (by decide) ?_
                    refine lv_istore_n (lv' := [(3, .int (nI 0)), (2, .int (nI 0)), (0, .ref h), (1, .int k), (4, .int (nI z)), (5, .int (nI y))]) hx hb dX5_status_121 rfl hl (by decide) rfl (fun ls hl => ?_)
                    refine lv_iinc (v := nI (y + 1)) (lv' := [(5, .int (nI (y + 1))), (3, .int (nI 0)), (2, .int (nI 0)), (0, .ref h), (1, .int k), (4, .int (nI z))]) hx hb dX5_status_122 hl (k := 5) rfl (nI_inc _) (by decide) rfl (fun ls hl => ?_)
                    refine lv_goto (tgt := 35) hx hb dX5_status_125 (by decide) ?_
                    exact ih35 (y + 1) false false (by omega) (by omega) (by show _ = (dA (tzB st) 4 z && (rA (tzB st z) y && tzB st z y)); rw [← Bool.and_assoc, ← g1]; unfold tzB; first | (rw [c42]; rfl) | (rw [c42, decide_eq_true c73]; rfl) | (rw [c42, decide_eq_false c73]; rfl)) (by show _ = ((decide (gsm st = gsn st) && dA (tsB st) 4 z) && (rA (tsB st z) y && tsB st z y)); rw [← Bool.and_assoc, ← g2]; unfold tsB; first | (rw [c83]; rfl) | (rw [c83, decide_eq_true c113]; rfl) | (rw [c83, decide_eq_false c113]; rfl)) _ _ hP hS ls (lv_sub hl [3, 4, 2, 1, 5, 0] rfl)
                  · have c83 := gb_t c83
                    refine lv_aload_n hx hb dX5_status_86 rfl (lv_at hl 1 rfl) ?_
                    refine g_get hC hP hm.1 rfl inX5 1 (by decide) q3_7 hm.2.2.1.1 dX5_status_87 ?_
                    refine lv_bipush (v := nI 16) hx hb dX5_status_90 (by decide) ?_
                    refine lv_iconst (v := nI 4) hx hb dX5_status_92 (by decide) ?_
                    refine lv_iload hx hb dX5_status_93 (lv_at hl 4 rfl) ?_
                    refine lv_imul hx hb dX5_status_95 ?_
                    refine g_topi (y := nI (4 * z)) (nI_mul _ _) ?_
                    refine lv_iadd hx hb dX5_status_96 ?_
                    refine g_topi (y := nI (16 + (4 * z))) (nI_add _ _) ?_
                    refine lv_iload hx hb dX5_status_97 (lv_at hl 5 rfl) ?_
                    refine lv_iadd hx hb dX5_status_99 ?_
                    refine g_topi (y := nI (16 + (4 * z) + y)) (nI_add _ _) ?_
                    refine g_iald hC hP hm.2.2.1.2 (vp_in_nI (by omega) (by decide)) dX5_status_100 ?_
                    refine g_topi (y := gsP1 st (y * 4 + z)) ((congrArg (I (h + 2)) (nI_clamp (by omega))).trans (hs0.2.2.2.2.2.1 z y (by omega) (by omega))) ?_
                    refine lv_aload_n hx hb dX5_status_101 rfl (lv_at hl 1 rfl) ?_
                    refine g_get hC hP hm.1 rfl inX5 1 (by decide) q3_7 hm.2.2.1.1 dX5_status_102 ?_
                    refine lv_iconst (v := nI 4) hx hb dX5_status_105 (by decide) ?_
                    refine lv_iload hx hb dX5_status_106 (lv_at hl 5 rfl) ?_
                    refine lv_imul hx hb dX5_status_108 ?_
                    refine g_topi (y := nI (4 * y)) (nI_mul _ _) ?_
                    refine lv_iload hx hb dX5_status_109 (lv_at hl 4 rfl) ?_
                    refine lv_iadd hx hb dX5_status_111 ?_
                    refine g_topi (y := nI (4 * y + z)) (nI_add _ _) ?_
                    refine g_iald hC hP hm.2.2.1.2 (vp_in_nI (by omega) (by decide)) dX5_status_112 ?_
                    refine g_topi (y := gsP0 st (y * 4 + z)) ((congrArg (I (h + 2)) (nI_clamp (by omega))).trans (hs0.2.2.2.2.1 y z (by omega) (by omega))) ?_
                    refine lv_icmp_ne (tgt := 120) hx hb dX5_status_113 (by decide) (fun c113 => ?_) (fun c113 => ?_)
                    · refine lv_iconst (v := nI 0) hx hb dX5_status_120 (by decide) ?_
                      refine lv_istore_n (lv' := [(3, .int (nI 0)), (2, .int (nI 0)), (0, .ref h), (1, .int k), (4, .int (nI z)), (5, .int (nI y))]) hx hb dX5_status_121 rfl hl (by decide) rfl (fun ls hl => ?_)
                      refine lv_iinc (v := nI (y + 1)) (lv' := [(5, .int (nI (y + 1))), (3, .int (nI 0)), (2, .int (nI 0)), (0, .ref h), (1, .int k), (4, .int (nI z))]) hx hb dX5_status_122 hl (k := 5) rfl (nI_inc _) (by decide) rfl (fun ls hl => ?_)
                      refine lv_goto (tgt := 35) hx hb dX5_status_125 (by decide) ?_
                      exact ih35 (y + 1) false false (by omega) (by omega) (by show _ = (dA (tzB st) 4 z && (rA (tzB st z) y && tzB st z y)); rw [← Bool.and_assoc, ← g1]; unfold tzB; first | (rw [c42]; rfl) | (rw [c42, decide_eq_true c73]; rfl) | (rw [c42, decide_eq_false c73]; rfl)) (by show _ = ((decide (gsm st = gsn st) && dA (tsB st) 4 z) && (rA (tsB st z) y && tsB st z y)); rw [← Bool.and_assoc, ← g2]; unfold tsB; first | (rw [c83]; rfl) | (rw [c83, decide_eq_true c113]; rfl) | (rw [c83, decide_eq_false c113]; rfl)) _ _ hP hS ls (lv_sub hl [3, 4, 2, 1, 5, 0] rfl)
                    · refine lv_iconst (v := nI 1) hx hb dX5_status_116 (by decide) ?_
                      refine lv_goto (tgt := 121) hx hb dX5_status_117 (by decide) ?_
                      refine lv_istore_n (lv' := [(3, .int (nI 1)), (2, .int (nI 0)), (0, .ref h), (1, .int k), (4, .int (nI z)), (5, .int (nI y))]) hx hb dX5_status_121 rfl hl (by decide) rfl (fun ls hl => ?_)
                      refine lv_iinc (v := nI (y + 1)) (lv' := [(5, .int (nI (y + 1))), (3, .int (nI 1)), (2, .int (nI 0)), (0, .ref h), (1, .int k), (4, .int (nI z))]) hx hb dX5_status_122 hl (k := 5) rfl (nI_inc _) (by decide) rfl (fun ls hl => ?_)
                      refine lv_goto (tgt := 35) hx hb dX5_status_125 (by decide) ?_
                      exact ih35 (y + 1) false true (by omega) (by omega) (by show _ = (dA (tzB st) 4 z && (rA (tzB st z) y && tzB st z y)); rw [← Bool.and_assoc, ← g1]; unfold tzB; first | (rw [c42]; rfl) | (rw [c42, decide_eq_true c73]; rfl) | (rw [c42, decide_eq_false c73]; rfl)) (by show _ = ((decide (gsm st = gsn st) && dA (tsB st) 4 z) && (rA (tsB st z) y && tsB st z y)); rw [← Bool.and_assoc, ← g2]; unfold tsB; first | (rw [c83]; rfl) | (rw [c83, decide_eq_true c113]; rfl) | (rw [c83, decide_eq_false c113]; rfl)) _ _ hP hS ls (lv_sub hl [3, 4, 2, 1, 5, 0] rfl)
                · have c42 := gb_t c42
                  refine lv_aload_n hx hb dX5_status_45 rfl (lv_at hl 0 rfl) ?_
                  refine g_get hC hP hm.1 rfl inX5 1 (by decide) q3_7 hm.2.2.1.1 dX5_status_46 ?_
                  refine lv_iconst (v := nI 4) hx hb dX5_status_49 (by decide) ?_
                  refine lv_iload hx hb dX5_status_50 (lv_at hl 4 rfl) ?_
                  refine lv_imul hx hb dX5_status_52 ?_
                  refine g_topi (y := nI (4 * z)) (nI_mul _ _) ?_
                  refine lv_iload hx hb dX5_status_53 (lv_at hl 5 rfl) ?_
                  refine lv_iadd hx hb dX5_status_55 ?_
                  refine g_topi (y := nI (4 * z + y)) (nI_add _ _) ?_
                  refine g_iald hC hP hm.2.2.1.2 (vp_in_nI (by omega) (by decide)) dX5_status_56 ?_
                  refine g_topi (y := gsP0 st (z * 4 + y)) ((congrArg (I (h + 2)) (nI_clamp (by omega))).trans (hs0.2.2.2.2.1 z y (by omega) (by omega))) ?_
                  refine lv_aload_n hx hb dX5_status_57 rfl (lv_at hl 0 rfl) ?_
                  refine g_get hC hP hm.1 rfl inX5 1 (by decide) q3_7 hm.2.2.1.1 dX5_status_58 ?_
                  refine lv_bipush (v := nI 16) hx hb dX5_status_61 (by decide) ?_
                  refine lv_iconst (v := nI 4) hx hb dX5_status_63 (by decide) ?_
                  refine lv_iload hx hb dX5_status_64 (lv_at hl 4 rfl) ?_
                  refine lv_imul hx hb dX5_status_66 ?_
                  refine g_topi (y := nI (4 * z)) (nI_mul _ _) ?_
                  refine lv_iadd hx hb dX5_status_67 ?_
                  refine g_topi (y := nI (16 + (4 * z))) (nI_add _ _) ?_
                  refine lv_iload hx hb dX5_status_68 (lv_at hl 5 rfl) ?_
                  refine lv_iadd hx hb dX5_status_70 ?_
                  refine g_topi (y := nI (16 + (4 * z) + y)) (nI_add _ _) ?_
                  refine g_iald hC hP hm.2.2.1.2 (vp_in_nI (by omega) (by decide)) dX5_status_71 ?_
                  refine g_topi (y := gsP1 st (y * 4 + z)) ((congrArg (I (h + 2)) (nI_clamp (by omega))).trans (hs0.2.2.2.2.2.1 z y (by omega) (by omega))) ?_
                  refine lv_iadd hx hb dX5_status_72 ?_
                  refine lv_if_ne (tgt := 80) hx hb dX5_status_73 (by decide) (fun c73 => ?_) (fun c73 => ?_)
                  · refine lv_iconst (v := nI 0) hx hb dX5_status_80 (by decide) ?_
                    refine lv_istore_n (lv' := [(2, .int (nI 0)), (0, .ref h), (1, .int k), (3, .int (gb sa2)), (4, .int (nI z)), (5, .int (nI y))]) hx hb dX5_status_81 rfl hl (by decide) rfl (fun ls hl => ?_)
                    refine lv_iload_n hx hb dX5_status_82 rfl (lv_at hl 3 rfl) ?_
                    refine lv_if_eq (tgt := 120) hx hb dX5_status_83 (by decide) (fun c83 => ?_) (fun c83 => ?_)
                    · have c83 := gb_f c83
                      refine lv_iconst (v := nI 0) hx hb dX5_status_120 (by decide) ?_
                      refine lv_istore_n (lv' := [(3, .int (nI 0)), (2, .int (nI 0)), (0, .ref h), (1, .int k), (4, .int (nI z)), (5, .int (nI y))]) hx hb dX5_status_121 rfl hl (by decide) rfl (fun ls hl => ?_)
                      refine lv_iinc (v := nI (y + 1)) (lv' := [(5, .int (nI (y + 1))), (3, .int (nI 0)), (2, .int (nI 0)), (0, .ref h), (1, .int k), (4, .int (nI z))]) hx hb dX5_status_122 hl (k := 5) rfl (nI_inc _) (by decide) rfl (fun ls hl => ?_)
                      refine lv_goto (tgt := 35) hx hb dX5_status_125 (by decide) ?_
                      exact ih35 (y + 1) false false (by omega) (by omega) (by show _ = (dA (tzB st) 4 z && (rA (tzB st z) y && tzB st z y)); rw [← Bool.and_assoc, ← g1]; unfold tzB; first | (rw [c42]; rfl) | (rw [c42, decide_eq_true c73]; rfl) | (rw [c42, decide_eq_false c73]; rfl)) (by show _ = ((decide (gsm st = gsn st) && dA (tsB st) 4 z) && (rA (tsB st z) y && tsB st z y)); rw [← Bool.and_assoc, ← g2]; unfold tsB; first | (rw [c83]; rfl) | (rw [c83, decide_eq_true c113]; rfl) | (rw [c83, decide_eq_false c113]; rfl)) _ _ hP hS ls (lv_sub hl [3, 4, 2, 1, 5, 0] rfl)
                    · have c83 := gb_t c83
                      refine lv_aload_n hx hb dX5_status_86 rfl (lv_at hl 1 rfl) ?_
                      refine g_get hC hP hm.1 rfl inX5 1 (by decide) q3_7 hm.2.2.1.1 dX5_status_87 ?_
                      refine lv_bipush (v := nI 16) hx hb dX5_status_90 (by decide) ?_
                      refine lv_iconst (v := nI 4) hx hb dX5_status_92 (by decide) ?_
                      refine lv_iload hx hb dX5_status_93 (lv_at hl 4 rfl) ?_
                      refine lv_imul hx hb dX5_status_95 ?_
                      refine g_topi (y := nI (4 * z)) (nI_mul _ _) ?_
                      refine lv_iadd hx hb dX5_status_96 ?_
                      refine g_topi (y := nI (16 + (4 * z))) (nI_add _ _) ?_
                      refine lv_iload hx hb dX5_status_97 (lv_at hl 5 rfl) ?_
                      refine lv_iadd hx hb dX5_status_99 ?_
                      refine g_topi (y := nI (16 + (4 * z) + y)) (nI_add _ _) ?_
                      refine g_iald hC hP hm.2.2.1.2 (vp_in_nI (by omega) (by decide)) dX5_status_100 ?_
                      refine g_topi (y := gsP1 st (y * 4 + z)) ((congrArg (I (h + 2)) (nI_clamp (by omega))).trans (hs0.2.2.2.2.2.1 z y (by omega) (by omega))) ?_
                      refine lv_aload_n hx hb dX5_status_101 rfl (lv_at hl 1 rfl) ?_
                      refine g_get hC hP hm.1 rfl inX5 1 (by decide) q3_7 hm.2.2.1.1 dX5_status_102 ?_
                      refine lv_iconst (v := nI 4) hx hb dX5_status_105 (by decide) ?_
                      refine lv_iload hx hb dX5_status_106 (lv_at hl 5 rfl) ?_
                      refine lv_imul hx hb dX5_status_108 ?_
                      refine g_topi (y := nI (4 * y)) (nI_mul _ _) ?_
                      refine lv_iload hx hb dX5_status_109 (lv_at hl 4 rfl) ?_
                      refine lv_iadd hx hb dX5_status_111 ?_
                      refine g_topi (y := nI (4 * y + z)) (nI_add _ _) ?_
                      refine g_iald hC hP hm.2.2.1.2 (vp_in_nI (by omega) (by decide)) dX5_status_112 ?_
                      refine g_topi (y := gsP0 st (y * 4 + z)) ((congrArg (I (h + 2)) (nI_clamp (by omega))).trans (hs0.2.2.2.2.1 y z (by omega) (by omega))) ?_
                      refine lv_icmp_ne (tgt := 120) hx hb dX5_status_113 (by decide) (fun c113 => ?_) (fun c113 => ?_)
                      · refine lv_iconst (v := nI 0) hx hb dX5_status_120 (by decide) ?_
                        refine lv_istore_n (lv' := [(3, .int (nI 0)), (2, .int (nI 0)), (0, .ref h), (1, .int k), (4, .int (nI z)), (5, .int (nI y))]) hx hb dX5_status_121 rfl hl (by decide) rfl (fun ls hl => ?_)
                        refine lv_iinc (v := nI (y + 1)) (lv' := [(5, .int (nI (y + 1))), (3, .int (nI 0)), (2, .int (nI 0)), (0, .ref h), (1, .int k), (4, .int (nI z))]) hx hb dX5_status_122 hl (k := 5) rfl (nI_inc _) (by decide) rfl (fun ls hl => ?_)
                        refine lv_goto (tgt := 35) hx hb dX5_status_125 (by decide) ?_
                        exact ih35 (y + 1) false false (by omega) (by omega) (by show _ = (dA (tzB st) 4 z && (rA (tzB st z) y && tzB st z y)); rw [← Bool.and_assoc, ← g1]; unfold tzB; first | (rw [c42]; rfl) | (rw [c42, decide_eq_true c73]; rfl) | (rw [c42, decide_eq_false c73]; rfl)) (by show _ = ((decide (gsm st = gsn st) && dA (tsB st) 4 z) && (rA (tsB st z) y && tsB st z y)); rw [← Bool.and_assoc, ← g2]; unfold tsB; first | (rw [c83]; rfl) | (rw [c83, decide_eq_true c113]; rfl) | (rw [c83, decide_eq_false c113]; rfl)) _ _ hP hS ls (lv_sub hl [3, 4, 2, 1, 5, 0] rfl)
                      · refine lv_iconst (v := nI 1) hx hb dX5_status_116 (by decide) ?_
                        refine lv_goto (tgt := 121) hx hb dX5_status_117 (by decide) ?_
                        refine lv_istore_n (lv' := [(3, .int (nI 1)), (2, .int (nI 0)), (0, .ref h), (1, .int k), (4, .int (nI z)), (5, .int (nI y))]) hx hb dX5_status_121 rfl hl (by decide) rfl (fun ls hl => ?_)
                        refine lv_iinc (v := nI (y + 1)) (lv' := [(5, .int (nI (y + 1))), (3, .int (nI 1)), (2, .int (nI 0)), (0, .ref h), (1, .int k), (4, .int (nI z))]) hx hb dX5_status_122 hl (k := 5) rfl (nI_inc _) (by decide) rfl (fun ls hl => ?_)
                        refine lv_goto (tgt := 35) hx hb dX5_status_125 (by decide) ?_
                        exact ih35 (y + 1) false true (by omega) (by omega) (by show _ = (dA (tzB st) 4 z && (rA (tzB st z) y && tzB st z y)); rw [← Bool.and_assoc, ← g1]; unfold tzB; first | (rw [c42]; rfl) | (rw [c42, decide_eq_true c73]; rfl) | (rw [c42, decide_eq_false c73]; rfl)) (by show _ = ((decide (gsm st = gsn st) && dA (tsB st) 4 z) && (rA (tsB st z) y && tsB st z y)); rw [← Bool.and_assoc, ← g2]; unfold tsB; first | (rw [c83]; rfl) | (rw [c83, decide_eq_true c113]; rfl) | (rw [c83, decide_eq_false c113]; rfl)) _ _ hP hS ls (lv_sub hl [3, 4, 2, 1, 5, 0] rfl)
                  · refine lv_iconst (v := nI 1) hx hb dX5_status_76 (by decide) ?_
                    refine lv_goto (tgt := 81) hx hb dX5_status_77 (by decide) ?_
                    refine lv_istore_n (lv' := [(2, .int (nI 1)), (0, .ref h), (1, .int k), (3, .int (gb sa2)), (4, .int (nI z)), (5, .int (nI y))]) hx hb dX5_status_81 rfl hl (by decide) rfl (fun ls hl => ?_)
                    refine lv_iload_n hx hb dX5_status_82 rfl (lv_at hl 3 rfl) ?_
                    refine lv_if_eq (tgt := 120) hx hb dX5_status_83 (by decide) (fun c83 => ?_) (fun c83 => ?_)
                    · have c83 := gb_f c83
                      refine lv_iconst (v := nI 0) hx hb dX5_status_120 (by decide) ?_
                      refine lv_istore_n (lv' := [(3, .int (nI 0)), (2, .int (nI 1)), (0, .ref h), (1, .int k), (4, .int (nI z)), (5, .int (nI y))]) hx hb dX5_status_121 rfl hl (by decide) rfl (fun ls hl => ?_)
                      refine lv_iinc (v := nI (y + 1)) (lv' := [(5, .int (nI (y + 1))), (3, .int (nI 0)), (2, .int (nI 1)), (0, .ref h), (1, .int k), (4, .int (nI z))]) hx hb dX5_status_122 hl (k := 5) rfl (nI_inc _) (by decide) rfl (fun ls hl => ?_)
                      refine lv_goto (tgt := 35) hx hb dX5_status_125 (by decide) ?_
                      exact ih35 (y + 1) true false (by omega) (by omega) (by show _ = (dA (tzB st) 4 z && (rA (tzB st z) y && tzB st z y)); rw [← Bool.and_assoc, ← g1]; unfold tzB; first | (rw [c42]; rfl) | (rw [c42, decide_eq_true c73]; rfl) | (rw [c42, decide_eq_false c73]; rfl)) (by show _ = ((decide (gsm st = gsn st) && dA (tsB st) 4 z) && (rA (tsB st z) y && tsB st z y)); rw [← Bool.and_assoc, ← g2]; unfold tsB; first | (rw [c83]; rfl) | (rw [c83, decide_eq_true c113]; rfl) | (rw [c83, decide_eq_false c113]; rfl)) _ _ hP hS ls (lv_sub hl [3, 4, 2, 1, 5, 0] rfl)
                    · have c83 := gb_t c83
                      refine lv_aload_n hx hb dX5_status_86 rfl (lv_at hl 1 rfl) ?_
                      refine g_get hC hP hm.1 rfl inX5 1 (by decide) q3_7 hm.2.2.1.1 dX5_status_87 ?_
                      refine lv_bipush (v := nI 16) hx hb dX5_status_90 (by decide) ?_
                      refine lv_iconst (v := nI 4) hx hb dX5_status_92 (by decide) ?_
                      refine lv_iload hx hb dX5_status_93 (lv_at hl 4 rfl) ?_
                      refine lv_imul hx hb dX5_status_95 ?_
                      refine g_topi (y := nI (4 * z)) (nI_mul _ _) ?_
                      refine lv_iadd hx hb dX5_status_96 ?_
                      refine g_topi (y := nI (16 + (4 * z))) (nI_add _ _) ?_
                      refine lv_iload hx hb dX5_status_97 (lv_at hl 5 rfl) ?_
                      refine lv_iadd hx hb dX5_status_99 ?_
                      refine g_topi (y := nI (16 + (4 * z) + y)) (nI_add _ _) ?_
                      refine g_iald hC hP hm.2.2.1.2 (vp_in_nI (by omega) (by decide)) dX5_status_100 ?_
                      refine g_topi (y := gsP1 st (y * 4 + z)) ((congrArg (I (h + 2)) (nI_clamp (by omega))).trans (hs0.2.2.2.2.2.1 z y (by omega) (by omega))) ?_
                      refine lv_aload_n hx hb dX5_status_101 rfl (lv_at hl 1 rfl) ?_
                      refine g_get hC hP hm.1 rfl inX5 1 (by decide) q3_7 hm.2.2.1.1 dX5_status_102 ?_
                      refine lv_iconst (v := nI 4) hx hb dX5_status_105 (by decide) ?_
                      refine lv_iload hx hb dX5_status_106 (lv_at hl 5 rfl) ?_
                      refine lv_imul hx hb dX5_status_108 ?_
                      refine g_topi (y := nI (4 * y)) (nI_mul _ _) ?_
                      refine lv_iload hx hb dX5_status_109 (lv_at hl 4 rfl) ?_
                      refine lv_iadd hx hb dX5_status_111 ?_
                      refine g_topi (y := nI (4 * y + z)) (nI_add _ _) ?_
                      refine g_iald hC hP hm.2.2.1.2 (vp_in_nI (by omega) (by decide)) dX5_status_112 ?_
                      refine g_topi (y := gsP0 st (y * 4 + z)) ((congrArg (I (h + 2)) (nI_clamp (by omega))).trans (hs0.2.2.2.2.1 y z (by omega) (by omega))) ?_
                      refine lv_icmp_ne (tgt := 120) hx hb dX5_status_113 (by decide) (fun c113 => ?_) (fun c113 => ?_)
                      · refine lv_iconst (v := nI 0) hx hb dX5_status_120 (by decide) ?_
                        refine lv_istore_n (lv' := [(3, .int (nI 0)), (2, .int (nI 1)), (0, .ref h), (1, .int k), (4, .int (nI z)), (5, .int (nI y))]) hx hb dX5_status_121 rfl hl (by decide) rfl (fun ls hl => ?_)
                        refine lv_iinc (v := nI (y + 1)) (lv' := [(5, .int (nI (y + 1))), (3, .int (nI 0)), (2, .int (nI 1)), (0, .ref h), (1, .int k), (4, .int (nI z))]) hx hb dX5_status_122 hl (k := 5) rfl (nI_inc _) (by decide) rfl (fun ls hl => ?_)
                        refine lv_goto (tgt := 35) hx hb dX5_status_125 (by decide) ?_
                        exact ih35 (y + 1) true false (by omega) (by omega) (by show _ = (dA (tzB st) 4 z && (rA (tzB st z) y && tzB st z y)); rw [← Bool.and_assoc, ← g1]; unfold tzB; first | (rw [c42]; rfl) | (rw [c42, decide_eq_true c73]; rfl) | (rw [c42, decide_eq_false c73]; rfl)) (by show _ = ((decide (gsm st = gsn st) && dA (tsB st) 4 z) && (rA (tsB st z) y && tsB st z y)); rw [← Bool.and_assoc, ← g2]; unfold tsB; first | (rw [c83]; rfl) | (rw [c83, decide_eq_true c113]; rfl) | (rw [c83, decide_eq_false c113]; rfl)) _ _ hP hS ls (lv_sub hl [3, 4, 2, 1, 5, 0] rfl)
                      · refine lv_iconst (v := nI 1) hx hb dX5_status_116 (by decide) ?_
                        refine lv_goto (tgt := 121) hx hb dX5_status_117 (by decide) ?_
                        refine lv_istore_n (lv' := [(3, .int (nI 1)), (2, .int (nI 1)), (0, .ref h), (1, .int k), (4, .int (nI z)), (5, .int (nI y))]) hx hb dX5_status_121 rfl hl (by decide) rfl (fun ls hl => ?_)
                        refine lv_iinc (v := nI (y + 1)) (lv' := [(5, .int (nI (y + 1))), (3, .int (nI 1)), (2, .int (nI 1)), (0, .ref h), (1, .int k), (4, .int (nI z))]) hx hb dX5_status_122 hl (k := 5) rfl (nI_inc _) (by decide) rfl (fun ls hl => ?_)
                        refine lv_goto (tgt := 35) hx hb dX5_status_125 (by decide) ?_
                        exact ih35 (y + 1) true true (by omega) (by omega) (by show _ = (dA (tzB st) 4 z && (rA (tzB st z) y && tzB st z y)); rw [← Bool.and_assoc, ← g1]; unfold tzB; first | (rw [c42]; rfl) | (rw [c42, decide_eq_true c73]; rfl) | (rw [c42, decide_eq_false c73]; rfl)) (by show _ = ((decide (gsm st = gsn st) && dA (tsB st) 4 z) && (rA (tsB st z) y && tsB st z y)); rw [← Bool.and_assoc, ← g2]; unfold tsB; first | (rw [c83]; rfl) | (rw [c83, decide_eq_true c113]; rfl) | (rw [c83, decide_eq_false c113]; rfl)) _ _ hP hS ls (lv_sub hl [3, 4, 2, 1, 5, 0] rfl)
          exact L35 5 0 ze sa (by omega) (by omega) (by rw [h1]; exact (Bool.and_true _).symm) (by rw [h2]; exact (Bool.and_true _).symm) _ _ hP hS ls (lv_sub hl [1, 2, 3, 4, 5, 0] rfl)
    exact L26 5 0 true true (by omega) (by omega) rfl (by first | (rw [decide_eq_true c14]; rfl) | (rw [decide_eq_false c14]; rfl)) _ _ hP hS ls (lv_sub hl [3, 4, 2, 1, 0] rfl)
