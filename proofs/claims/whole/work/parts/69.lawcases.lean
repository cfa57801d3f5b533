/-! ===== the law: one call of each ===== -/
set_option maxHeartbeats 4000000 in
set_option maxRecDepth 100000 in
theorem la_game {p : Program} {l : Launch} {e : Env} {s : State} {m : MethodId} {below : List Frame} {meth : Method} {c : Code} {G : gG} {b L g h k : Nat} {xs : Nat → Int32} {st : GS} {H : Heap} {locs : List Loc} {ls : Array Slot} {nm : String} (hC : gC G p m c cL_law 4 s #[Value.ref b] RL meth ret nm) (hX : va_X b L xs s s.heap) (hbl : b < s.heap.size) (hS : va_S (fun q : Nat => s.heap.size ≤ q) s.heap H locs) (hW : WD G s.heap.size g h st H) (hk : 5 * k + 5 ≤ L) (hL : L ≤ 2560) (hl : lv_has ls 4 [(0, .ref b), (1, .ref g), (2, .ref h), (3, .int (nI (5 * k)))]) (kn : ∀ (st1 : GS) (H1 : Heap) (locs1 : List Loc), WD G s.heap.size g h st1 H1 → va_S (fun q : Nat => s.heap.size ≤ q) s.heap H1 locs1 → W p l e room_1 s m #[Value.ref b] below meth c H1 locs1 (46 + 900 * (k + 1)) (1964 + 3600 * (k + 1)) (lw_Z below #[Value.ref b] s) (F0 m 754 ls [])) : W p l e room_1 s m #[Value.ref b] below meth c H locs (46 + 900 * k) (1964 + 3600 * k) (lw_Z below #[Value.ref b] s) (F0 m 136 ls []) := by
  obtain ⟨T, I, J, Q, O, r, d, ck, cr, cd, Sr, Sd, T', I', J', Q', O', hP, hg, hck, hst, hP', hm, hs0, hdj, hlo, hlo', hinv⟩ := hW
  have hx := hC.1.1
  have hb := hC.1.2.1
  have hbA : ¬ (fun q : Nat => s.heap.size ≤ q) b := Nat.not_le.mpr hbl
  have hdj2 : ∀ q, (T' q).1 ≠ 0 → (T q).1 = 0 := fun q hq => Classical.byContradiction (fun z => hq (hdj q z))
  refine lv_aload_n hx hb dL_law_136 rfl (lv_at hl 1 rfl) ?_
  refine lv_aload_n hx hb dL_law_137 rfl (lv_at hl 0 rfl) ?_
  refine lv_iload_n hx hb dL_law_138 rfl (lv_at hl 3 rfl) ?_
  refine lv_iconst (v := nI 1) hx hb dL_law_139 (by decide) ?_
  refine lv_iadd hx hb dL_law_140 ?_
  refine g_topi (y := nI (5 * k + 1)) (nI_add _ _) ?_
  refine va_sld hx hb hX hbl hbA hS (vp_in_nI (by omega) (by omega)) dL_law_141 ?_
  refine g_topi (y := xs (5 * k + 1)) (congrArg xs (nI_clamp (by omega))) ?_
  refine lv_aload_n hx hb dL_law_142 rfl (lv_at hl 0 rfl) ?_
  refine lv_iload_n hx hb dL_law_143 rfl (lv_at hl 3 rfl) ?_
  refine lv_iconst (v := nI 2) hx hb dL_law_144 (by decide) ?_
  refine lv_iadd hx hb dL_law_145 ?_
  refine g_topi (y := nI (5 * k + 2)) (nI_add _ _) ?_
  refine va_sld hx hb hX hbl hbA hS (vp_in_nI (by omega) (by omega)) dL_law_146 ?_
  refine g_topi (y := xs (5 * k + 2)) (congrArg xs (nI_clamp (by omega))) ?_
  refine g_cc (g_rV (As := [.int (xs (5 * k + 1)), .int (xs (5 * k + 2))]) hC hP (c_X4_game l hP (a := xs (5 * k + 1)) (b2 := xs (5 * k + 2)) hg hck) hg.1 rfl ⟨q1_134, q1_131, q1_132, q1_133, q1_1⟩ dd_X4_game ⟨Nat.le_of_ble_eq_true rfl, Nat.le_of_ble_eq_true rfl, rfl, rfl⟩ hl.1 rfl (Nat.le_of_ble_eq_true rfl) dL_law_147 ⟨by show _ ≤ 653078; omega, by show _ ≤ 7143014; omega⟩) hS (fun q z => z.elim (hlo q) (fun z => Nat.le_trans hS.1 z)) (fun r1 H1 locs1 hq hS1 hz hfr => ?_)
  rw [hst] at hq
  obtain ⟨x, st1, hi1, hf⟩ : fnI (fun K => rGame st K (xs (5 * k + 1)) (xs (5 * k + 2))) := fn_game hinv
  obtain ⟨rfl, hgt⟩ := hf _ hq
  have hP1 := gP_frame hP' hz hfr hdj2
  have hlH := hS.1
  replace hS := hS1
  refine W.eq (g2 := F0 m 150 ls [.int x]) rfl ?_
  refine lv_aload_n hx hb dL_law_150 rfl (lv_at hl 2 rfl) ?_
  refine lv_aload_n hx hb dL_law_151 rfl (lv_at hl 0 rfl) ?_
  refine lv_iload_n hx hb dL_law_152 rfl (lv_at hl 3 rfl) ?_
  refine lv_iconst (v := nI 1) hx hb dL_law_153 (by decide) ?_
  refine lv_iadd hx hb dL_law_154 ?_
  refine g_topi (y := nI (5 * k + 1)) (nI_add _ _) ?_
  refine va_sld hx hb hX hbl hbA hS (vp_in_nI (by omega) (by omega)) dL_law_155 ?_
  refine g_topi (y := xs (5 * k + 1)) (congrArg xs (nI_clamp (by omega))) ?_
  refine lv_aload_n hx hb dL_law_156 rfl (lv_at hl 0 rfl) ?_
  refine lv_iload_n hx hb dL_law_157 rfl (lv_at hl 3 rfl) ?_
  refine lv_iconst (v := nI 2) hx hb dL_law_158 (by decide) ?_
  refine lv_iadd hx hb dL_law_159 ?_
  refine g_topi (y := nI (5 * k + 2)) (nI_add _ _) ?_
  refine va_sld hx hb hX hbl hbA hS (vp_in_nI (by omega) (by omega)) dL_law_160 ?_
  refine g_topi (y := xs (5 * k + 2)) (congrArg xs (nI_clamp (by omega))) ?_
  refine g_cc (g_rV (As := [.int (xs (5 * k + 1)), .int (xs (5 * k + 2))]) hC hP1 (c_X5_game l hP1 (h := h) (st := st) (a := xs (5 * k + 1)) (b2 := xs (5 * k + 2)) hm hs0) hm.1 rfl ⟨q3_67, q3_64, q3_65, q3_66, q1_6⟩ dd_X5_game ⟨Nat.le_of_ble_eq_true rfl, Nat.le_of_ble_eq_true rfl, rfl, rfl⟩ hl.1 rfl (Nat.le_of_ble_eq_true rfl) dL_law_161 ⟨by show _ ≤ 653078; omega, by show _ ≤ 7143014; omega⟩) hS (fun q z => z.elim (hlo' q) (fun z => Nat.le_trans hS.1 z)) (fun r2 H2 locs2 hq2 hS2 hz2 hfr2 => ?_)
  obtain ⟨rfl, hmo⟩ := hf _ hq2
  refine W.eq (g2 := F0 m 164 ls [.int x, .int x]) rfl ?_
  refine lv_icmp_eq (tgt := 754) hx hb dL_law_164 (by decide) (fun _ => ?_) (fun q => absurd rfl q)
  refine W.widen (k := 46 + 900 * (k + 1)) (n := 1964 + 3600 * (k + 1)) (by omega) (by omega) ?_
  refine kn st1 H2 locs2 (WD_mk hgt hmo hz2 hfr2 (fun q hq hl1 => ?_) hlo hlH hlo' hi1) hS2
  rcases hq with hq | hq
  · exact hdj q hq
  · exact Classical.byContradiction (fun z => absurd (hP'.lt z) (by omega))
set_option maxHeartbeats 4000000 in
set_option maxRecDepth 100000 in
theorem la_pay {p : Program} {l : Launch} {e : Env} {s : State} {m : MethodId} {below : List Frame} {meth : Method} {c : Code} {G : gG} {b L g h k : Nat} {xs : Nat → Int32} {st : GS} {H : Heap} {locs : List Loc} {ls : Array Slot} {nm : String} (hC : gC G p m c cL_law 4 s #[Value.ref b] RL meth ret nm) (hX : va_X b L xs s s.heap) (hbl : b < s.heap.size) (hS : va_S (fun q : Nat => s.heap.size ≤ q) s.heap H locs) (hW : WD G s.heap.size g h st H) (hk : 5 * k + 5 ≤ L) (hL : L ≤ 2560) (hl : lv_has ls 4 [(0, .ref b), (1, .ref g), (2, .ref h), (3, .int (nI (5 * k)))]) (kn : ∀ (st1 : GS) (H1 : Heap) (locs1 : List Loc), WD G s.heap.size g h st1 H1 → va_S (fun q : Nat => s.heap.size ≤ q) s.heap H1 locs1 → W p l e room_1 s m #[Value.ref b] below meth c H1 locs1 (46 + 900 * (k + 1)) (1964 + 3600 * (k + 1)) (lw_Z below #[Value.ref b] s) (F0 m 754 ls [])) : W p l e room_1 s m #[Value.ref b] below meth c H locs (46 + 900 * k) (1964 + 3600 * k) (lw_Z below #[Value.ref b] s) (F0 m 169 ls []) := by
  obtain ⟨T, I, J, Q, O, r, d, ck, cr, cd, Sr, Sd, T', I', J', Q', O', hP, hg, hck, hst, hP', hm, hs0, hdj, hlo, hlo', hinv⟩ := hW
  have hx := hC.1.1
  have hb := hC.1.2.1
  have hbA : ¬ (fun q : Nat => s.heap.size ≤ q) b := Nat.not_le.mpr hbl
  have hdj2 : ∀ q, (T' q).1 ≠ 0 → (T q).1 = 0 := fun q hq => Classical.byContradiction (fun z => hq (hdj q z))
  refine lv_aload_n hx hb dL_law_169 rfl (lv_at hl 1 rfl) ?_
  refine lv_aload_n hx hb dL_law_170 rfl (lv_at hl 0 rfl) ?_
  refine lv_iload_n hx hb dL_law_171 rfl (lv_at hl 3 rfl) ?_
  refine lv_iconst (v := nI 1) hx hb dL_law_172 (by decide) ?_
  refine lv_iadd hx hb dL_law_173 ?_
  refine g_topi (y := nI (5 * k + 1)) (nI_add _ _) ?_
  refine va_sld hx hb hX hbl hbA hS (vp_in_nI (by omega) (by omega)) dL_law_174 ?_
  refine g_topi (y := xs (5 * k + 1)) (congrArg xs (nI_clamp (by omega))) ?_
  refine lv_aload_n hx hb dL_law_175 rfl (lv_at hl 0 rfl) ?_
  refine lv_iload_n hx hb dL_law_176 rfl (lv_at hl 3 rfl) ?_
  refine lv_iconst (v := nI 2) hx hb dL_law_177 (by decide) ?_
  refine lv_iadd hx hb dL_law_178 ?_
  refine g_topi (y := nI (5 * k + 2)) (nI_add _ _) ?_
  refine va_sld hx hb hX hbl hbA hS (vp_in_nI (by omega) (by omega)) dL_law_179 ?_
  refine g_topi (y := xs (5 * k + 2)) (congrArg xs (nI_clamp (by omega))) ?_
  refine lv_aload_n hx hb dL_law_180 rfl (lv_at hl 0 rfl) ?_
  refine lv_iload_n hx hb dL_law_181 rfl (lv_at hl 3 rfl) ?_
  refine lv_iconst (v := nI 3) hx hb dL_law_182 (by decide) ?_
  refine lv_iadd hx hb dL_law_183 ?_
  refine g_topi (y := nI (5 * k + 3)) (nI_add _ _) ?_
  refine va_sld hx hb hX hbl hbA hS (vp_in_nI (by omega) (by omega)) dL_law_184 ?_
  refine g_topi (y := xs (5 * k + 3)) (congrArg xs (nI_clamp (by omega))) ?_
  refine lv_aload_n hx hb dL_law_185 rfl (lv_at hl 0 rfl) ?_
  refine lv_iload_n hx hb dL_law_186 rfl (lv_at hl 3 rfl) ?_
  refine lv_iconst (v := nI 4) hx hb dL_law_187 (by decide) ?_
  refine lv_iadd hx hb dL_law_188 ?_
  refine g_topi (y := nI (5 * k + 4)) (nI_add _ _) ?_
  refine va_sld hx hb hX hbl hbA hS (vp_in_nI (by omega) (by omega)) dL_law_189 ?_
  refine g_topi (y := xs (5 * k + 4)) (congrArg xs (nI_clamp (by omega))) ?_
  refine g_cc (g_rV (As := [.int (xs (5 * k + 1)), .int (xs (5 * k + 2)), .int (xs (5 * k + 3)), .int (xs (5 * k + 4))]) hC hP (c_X4_pay l hP (q := xs (5 * k + 1)) (i := xs (5 * k + 2)) (k := xs (5 * k + 3)) (v := xs (5 * k + 4)) hg hck) hg.1 rfl ⟨q1_146, q1_143, q1_144, q1_145, q1_1⟩ dd_X4_pay ⟨Nat.le_of_ble_eq_true rfl, Nat.le_of_ble_eq_true rfl, rfl, rfl⟩ hl.1 rfl (Nat.le_of_ble_eq_true rfl) dL_law_190 ⟨by show _ ≤ 653078; omega, by show _ ≤ 7143014; omega⟩) hS (fun q z => z.elim (hlo q) (fun z => Nat.le_trans hS.1 z)) (fun r1 H1 locs1 hq hS1 hz hfr => ?_)
  rw [hst] at hq
  obtain ⟨x, st1, hi1, hf⟩ : fnI (fun K => rPay st K (xs (5 * k + 1)) (xs (5 * k + 2)) (xs (5 * k + 3)) (xs (5 * k + 4))) := fn_pay hinv
  obtain ⟨rfl, hgt⟩ := hf _ hq
  have hP1 := gP_frame hP' hz hfr hdj2
  have hlH := hS.1
  replace hS := hS1
  refine W.eq (g2 := F0 m 193 ls [.int x]) rfl ?_
  refine lv_aload_n hx hb dL_law_193 rfl (lv_at hl 2 rfl) ?_
  refine lv_aload_n hx hb dL_law_194 rfl (lv_at hl 0 rfl) ?_
  refine lv_iload_n hx hb dL_law_195 rfl (lv_at hl 3 rfl) ?_
  refine lv_iconst (v := nI 1) hx hb dL_law_196 (by decide) ?_
  refine lv_iadd hx hb dL_law_197 ?_
  refine g_topi (y := nI (5 * k + 1)) (nI_add _ _) ?_
  refine va_sld hx hb hX hbl hbA hS (vp_in_nI (by omega) (by omega)) dL_law_198 ?_
  refine g_topi (y := xs (5 * k + 1)) (congrArg xs (nI_clamp (by omega))) ?_
  refine lv_aload_n hx hb dL_law_199 rfl (lv_at hl 0 rfl) ?_
  refine lv_iload_n hx hb dL_law_200 rfl (lv_at hl 3 rfl) ?_
  refine lv_iconst (v := nI 2) hx hb dL_law_201 (by decide) ?_
  refine lv_iadd hx hb dL_law_202 ?_
  refine g_topi (y := nI (5 * k + 2)) (nI_add _ _) ?_
  refine va_sld hx hb hX hbl hbA hS (vp_in_nI (by omega) (by omega)) dL_law_203 ?_
  refine g_topi (y := xs (5 * k + 2)) (congrArg xs (nI_clamp (by omega))) ?_
  refine lv_aload_n hx hb dL_law_204 rfl (lv_at hl 0 rfl) ?_
  refine lv_iload_n hx hb dL_law_205 rfl (lv_at hl 3 rfl) ?_
  refine lv_iconst (v := nI 3) hx hb dL_law_206 (by decide) ?_
  refine lv_iadd hx hb dL_law_207 ?_
  refine g_topi (y := nI (5 * k + 3)) (nI_add _ _) ?_
  refine va_sld hx hb hX hbl hbA hS (vp_in_nI (by omega) (by omega)) dL_law_208 ?_
  refine g_topi (y := xs (5 * k + 3)) (congrArg xs (nI_clamp (by omega))) ?_
  refine lv_aload_n hx hb dL_law_209 rfl (lv_at hl 0 rfl) ?_
  refine lv_iload_n hx hb dL_law_210 rfl (lv_at hl 3 rfl) ?_
  refine lv_iconst (v := nI 4) hx hb dL_law_211 (by decide) ?_
  refine lv_iadd hx hb dL_law_212 ?_
  refine g_topi (y := nI (5 * k + 4)) (nI_add _ _) ?_
  refine va_sld hx hb hX hbl hbA hS (vp_in_nI (by omega) (by omega)) dL_law_213 ?_
  refine g_topi (y := xs (5 * k + 4)) (congrArg xs (nI_clamp (by omega))) ?_
  refine g_cc (g_rV (As := [.int (xs (5 * k + 1)), .int (xs (5 * k + 2)), .int (xs (5 * k + 3)), .int (xs (5 * k + 4))]) hC hP1 (c_X5_pay l hP1 (h := h) (st := st) (q := xs (5 * k + 1)) (i := xs (5 * k + 2)) (k := xs (5 * k + 3)) (v := xs (5 * k + 4)) hm hs0) hm.1 rfl ⟨q3_75, q3_72, q3_73, q3_74, q1_6⟩ dd_X5_pay ⟨Nat.le_of_ble_eq_true rfl, Nat.le_of_ble_eq_true rfl, rfl, rfl⟩ hl.1 rfl (Nat.le_of_ble_eq_true rfl) dL_law_214 ⟨by show _ ≤ 653078; omega, by show _ ≤ 7143014; omega⟩) hS (fun q z => z.elim (hlo' q) (fun z => Nat.le_trans hS.1 z)) (fun r2 H2 locs2 hq2 hS2 hz2 hfr2 => ?_)
  obtain ⟨rfl, hmo⟩ := hf _ hq2
  refine W.eq (g2 := F0 m 217 ls [.int x, .int x]) rfl ?_
  refine lv_icmp_eq (tgt := 754) hx hb dL_law_217 (by decide) (fun _ => ?_) (fun q => absurd rfl q)
  refine W.widen (k := 46 + 900 * (k + 1)) (n := 1964 + 3600 * (k + 1)) (by omega) (by omega) ?_
  refine kn st1 H2 locs2 (WD_mk hgt hmo hz2 hfr2 (fun q hq hl1 => ?_) hlo hlH hlo' hi1) hS2
  rcases hq with hq | hq
  · exact hdj q hq
  · exact Classical.byContradiction (fun z => absurd (hP'.lt z) (by omega))
set_option maxHeartbeats 4000000 in
set_option maxRecDepth 100000 in
theorem la_paid {p : Program} {l : Launch} {e : Env} {s : State} {m : MethodId} {below : List Frame} {meth : Method} {c : Code} {G : gG} {b L g h k : Nat} {xs : Nat → Int32} {st : GS} {H : Heap} {locs : List Loc} {ls : Array Slot} {nm : String} (hC : gC G p m c cL_law 4 s #[Value.ref b] RL meth ret nm) (hX : va_X b L xs s s.heap) (hbl : b < s.heap.size) (hS : va_S (fun q : Nat => s.heap.size ≤ q) s.heap H locs) (hW : WD G s.heap.size g h st H) (hk : 5 * k + 5 ≤ L) (hL : L ≤ 2560) (hl : lv_has ls 4 [(0, .ref b), (1, .ref g), (2, .ref h), (3, .int (nI (5 * k)))]) (kn : ∀ (st1 : GS) (H1 : Heap) (locs1 : List Loc), WD G s.heap.size g h st1 H1 → va_S (fun q : Nat => s.heap.size ≤ q) s.heap H1 locs1 → W p l e room_1 s m #[Value.ref b] below meth c H1 locs1 (46 + 900 * (k + 1)) (1964 + 3600 * (k + 1)) (lw_Z below #[Value.ref b] s) (F0 m 754 ls [])) : W p l e room_1 s m #[Value.ref b] below meth c H locs (46 + 900 * k) (1964 + 3600 * k) (lw_Z below #[Value.ref b] s) (F0 m 222 ls []) := by
  obtain ⟨T, I, J, Q, O, r, d, ck, cr, cd, Sr, Sd, T', I', J', Q', O', hP, hg, hck, hst, hP', hm, hs0, hdj, hlo, hlo', hinv⟩ := hW
  have hx := hC.1.1
  have hb := hC.1.2.1
  have hbA : ¬ (fun q : Nat => s.heap.size ≤ q) b := Nat.not_le.mpr hbl
  have hdj2 : ∀ q, (T' q).1 ≠ 0 → (T q).1 = 0 := fun q hq => Classical.byContradiction (fun z => hq (hdj q z))
  refine lv_aload_n hx hb dL_law_222 rfl (lv_at hl 1 rfl) ?_
  refine lv_aload_n hx hb dL_law_223 rfl (lv_at hl 0 rfl) ?_
  refine lv_iload_n hx hb dL_law_224 rfl (lv_at hl 3 rfl) ?_
  refine lv_iconst (v := nI 1) hx hb dL_law_225 (by decide) ?_
  refine lv_iadd hx hb dL_law_226 ?_
  refine g_topi (y := nI (5 * k + 1)) (nI_add _ _) ?_
  refine va_sld hx hb hX hbl hbA hS (vp_in_nI (by omega) (by omega)) dL_law_227 ?_
  refine g_topi (y := xs (5 * k + 1)) (congrArg xs (nI_clamp (by omega))) ?_
  refine lv_aload_n hx hb dL_law_228 rfl (lv_at hl 0 rfl) ?_
  refine lv_iload_n hx hb dL_law_229 rfl (lv_at hl 3 rfl) ?_
  refine lv_iconst (v := nI 2) hx hb dL_law_230 (by decide) ?_
  refine lv_iadd hx hb dL_law_231 ?_
  refine g_topi (y := nI (5 * k + 2)) (nI_add _ _) ?_
  refine va_sld hx hb hX hbl hbA hS (vp_in_nI (by omega) (by omega)) dL_law_232 ?_
  refine g_topi (y := xs (5 * k + 2)) (congrArg xs (nI_clamp (by omega))) ?_
  refine lv_aload_n hx hb dL_law_233 rfl (lv_at hl 0 rfl) ?_
  refine lv_iload_n hx hb dL_law_234 rfl (lv_at hl 3 rfl) ?_
  refine lv_iconst (v := nI 3) hx hb dL_law_235 (by decide) ?_
  refine lv_iadd hx hb dL_law_236 ?_
  refine g_topi (y := nI (5 * k + 3)) (nI_add _ _) ?_
  refine va_sld hx hb hX hbl hbA hS (vp_in_nI (by omega) (by omega)) dL_law_237 ?_
  refine g_topi (y := xs (5 * k + 3)) (congrArg xs (nI_clamp (by omega))) ?_
  refine g_cc (g_rV (As := [.int (xs (5 * k + 1)), .int (xs (5 * k + 2)), .int (xs (5 * k + 3))]) hC hP (c_X4_paid l hP (q := xs (5 * k + 1)) (i := xs (5 * k + 2)) (k := xs (5 * k + 3)) hg hck) hg.1 rfl ⟨q1_178, q1_175, q1_176, q1_177, q1_1⟩ dd_X4_paid ⟨Nat.le_of_ble_eq_true rfl, Nat.le_of_ble_eq_true rfl, rfl, rfl⟩ hl.1 rfl (Nat.le_of_ble_eq_true rfl) dL_law_238 ⟨by show _ ≤ 653078; omega, by show _ ≤ 7143014; omega⟩) hS (fun q z => z.elim (hlo q) (fun z => Nat.le_trans hS.1 z)) (fun r1 H1 locs1 hq hS1 hz hfr => ?_)
  rw [hst] at hq
  obtain ⟨x, st1, hi1, hf⟩ : fnI (fun K => rPaid st K (xs (5 * k + 1)) (xs (5 * k + 2)) (xs (5 * k + 3))) := fn_paid hinv
  obtain ⟨rfl, hgt⟩ := hf _ hq
  have hP1 := gP_frame hP' hz hfr hdj2
  have hlH := hS.1
  replace hS := hS1
  refine W.eq (g2 := F0 m 241 ls [.int x]) rfl ?_
  refine lv_aload_n hx hb dL_law_241 rfl (lv_at hl 2 rfl) ?_
  refine lv_aload_n hx hb dL_law_242 rfl (lv_at hl 0 rfl) ?_
  refine lv_iload_n hx hb dL_law_243 rfl (lv_at hl 3 rfl) ?_
  refine lv_iconst (v := nI 1) hx hb dL_law_244 (by decide) ?_
  refine lv_iadd hx hb dL_law_245 ?_
  refine g_topi (y := nI (5 * k + 1)) (nI_add _ _) ?_
  refine va_sld hx hb hX hbl hbA hS (vp_in_nI (by omega) (by omega)) dL_law_246 ?_
  refine g_topi (y := xs (5 * k + 1)) (congrArg xs (nI_clamp (by omega))) ?_
  refine lv_aload_n hx hb dL_law_247 rfl (lv_at hl 0 rfl) ?_
  refine lv_iload_n hx hb dL_law_248 rfl (lv_at hl 3 rfl) ?_
  refine lv_iconst (v := nI 2) hx hb dL_law_249 (by decide) ?_
  refine lv_iadd hx hb dL_law_250 ?_
  refine g_topi (y := nI (5 * k + 2)) (nI_add _ _) ?_
  refine va_sld hx hb hX hbl hbA hS (vp_in_nI (by omega) (by omega)) dL_law_251 ?_
  refine g_topi (y := xs (5 * k + 2)) (congrArg xs (nI_clamp (by omega))) ?_
  refine lv_aload_n hx hb dL_law_252 rfl (lv_at hl 0 rfl) ?_
  refine lv_iload_n hx hb dL_law_253 rfl (lv_at hl 3 rfl) ?_
  refine lv_iconst (v := nI 3) hx hb dL_law_254 (by decide) ?_
  refine lv_iadd hx hb dL_law_255 ?_
  refine g_topi (y := nI (5 * k + 3)) (nI_add _ _) ?_
  refine va_sld hx hb hX hbl hbA hS (vp_in_nI (by omega) (by omega)) dL_law_256 ?_
  refine g_topi (y := xs (5 * k + 3)) (congrArg xs (nI_clamp (by omega))) ?_
  refine g_cc (g_rV (As := [.int (xs (5 * k + 1)), .int (xs (5 * k + 2)), .int (xs (5 * k + 3))]) hC hP1 (c_X5_paid l hP1 (h := h) (st := st) (q := xs (5 * k + 1)) (i := xs (5 * k + 2)) (k := xs (5 * k + 3)) hm hs0) hm.1 rfl ⟨q3_94, q3_91, q3_92, q3_93, q1_6⟩ dd_X5_paid ⟨Nat.le_of_ble_eq_true rfl, Nat.le_of_ble_eq_true rfl, rfl, rfl⟩ hl.1 rfl (Nat.le_of_ble_eq_true rfl) dL_law_257 ⟨by show _ ≤ 653078; omega, by show _ ≤ 7143014; omega⟩) hS (fun q z => z.elim (hlo' q) (fun z => Nat.le_trans hS.1 z)) (fun r2 H2 locs2 hq2 hS2 hz2 hfr2 => ?_)
  obtain ⟨rfl, hmo⟩ := hf _ hq2
  refine W.eq (g2 := F0 m 260 ls [.int x, .int x]) rfl ?_
  refine lv_icmp_eq (tgt := 754) hx hb dL_law_260 (by decide) (fun _ => ?_) (fun q => absurd rfl q)
  refine W.widen (k := 46 + 900 * (k + 1)) (n := 1964 + 3600 * (k + 1)) (by omega) (by omega) ?_
  refine kn st1 H2 locs2 (WD_mk hgt hmo hz2 hfr2 (fun q hq hl1 => ?_) hlo hlH hlo' hi1) hS2
  rcases hq with hq | hq
  · exact hdj q hq
  · exact Classical.byContradiction (fun z => absurd (hP'.lt z) (by omega))
set_option maxHeartbeats 4000000 in
set_option maxRecDepth 100000 in
theorem la_weight {p : Program} {l : Launch} {e : Env} {s : State} {m : MethodId} {below : List Frame} {meth : Method} {c : Code} {G : gG} {b L g h k : Nat} {xs : Nat → Int32} {st : GS} {H : Heap} {locs : List Loc} {ls : Array Slot} {nm : String} (hC : gC G p m c cL_law 4 s #[Value.ref b] RL meth ret nm) (hX : va_X b L xs s s.heap) (hbl : b < s.heap.size) (hS : va_S (fun q : Nat => s.heap.size ≤ q) s.heap H locs) (hW : WD G s.heap.size g h st H) (hk : 5 * k + 5 ≤ L) (hL : L ≤ 2560) (hl : lv_has ls 4 [(0, .ref b), (1, .ref g), (2, .ref h), (3, .int (nI (5 * k)))]) (kn : ∀ (st1 : GS) (H1 : Heap) (locs1 : List Loc), WD G s.heap.size g h st1 H1 → va_S (fun q : Nat => s.heap.size ≤ q) s.heap H1 locs1 → W p l e room_1 s m #[Value.ref b] below meth c H1 locs1 (46 + 900 * (k + 1)) (1964 + 3600 * (k + 1)) (lw_Z below #[Value.ref b] s) (F0 m 754 ls [])) : W p l e room_1 s m #[Value.ref b] below meth c H locs (46 + 900 * k) (1964 + 3600 * k) (lw_Z below #[Value.ref b] s) (F0 m 265 ls []) := by
  obtain ⟨T, I, J, Q, O, r, d, ck, cr, cd, Sr, Sd, T', I', J', Q', O', hP, hg, hck, hst, hP', hm, hs0, hdj, hlo, hlo', hinv⟩ := hW
  have hx := hC.1.1
  have hb := hC.1.2.1
  have hbA : ¬ (fun q : Nat => s.heap.size ≤ q) b := Nat.not_le.mpr hbl
  have hdj2 : ∀ q, (T' q).1 ≠ 0 → (T q).1 = 0 := fun q hq => Classical.byContradiction (fun z => hq (hdj q z))
  refine lv_aload_n hx hb dL_law_265 rfl (lv_at hl 1 rfl) ?_
  refine lv_aload_n hx hb dL_law_266 rfl (lv_at hl 0 rfl) ?_
  refine lv_iload_n hx hb dL_law_267 rfl (lv_at hl 3 rfl) ?_
  refine lv_iconst (v := nI 1) hx hb dL_law_268 (by decide) ?_
  refine lv_iadd hx hb dL_law_269 ?_
  refine g_topi (y := nI (5 * k + 1)) (nI_add _ _) ?_
  refine va_sld hx hb hX hbl hbA hS (vp_in_nI (by omega) (by omega)) dL_law_270 ?_
  refine g_topi (y := xs (5 * k + 1)) (congrArg xs (nI_clamp (by omega))) ?_
  refine lv_aload_n hx hb dL_law_271 rfl (lv_at hl 0 rfl) ?_
  refine lv_iload_n hx hb dL_law_272 rfl (lv_at hl 3 rfl) ?_
  refine lv_iconst (v := nI 2) hx hb dL_law_273 (by decide) ?_
  refine lv_iadd hx hb dL_law_274 ?_
  refine g_topi (y := nI (5 * k + 2)) (nI_add _ _) ?_
  refine va_sld hx hb hX hbl hbA hS (vp_in_nI (by omega) (by omega)) dL_law_275 ?_
  refine g_topi (y := xs (5 * k + 2)) (congrArg xs (nI_clamp (by omega))) ?_
  refine lv_aload_n hx hb dL_law_276 rfl (lv_at hl 0 rfl) ?_
  refine lv_iload_n hx hb dL_law_277 rfl (lv_at hl 3 rfl) ?_
  refine lv_iconst (v := nI 3) hx hb dL_law_278 (by decide) ?_
  refine lv_iadd hx hb dL_law_279 ?_
  refine g_topi (y := nI (5 * k + 3)) (nI_add _ _) ?_
  refine va_sld hx hb hX hbl hbA hS (vp_in_nI (by omega) (by omega)) dL_law_280 ?_
  refine g_topi (y := xs (5 * k + 3)) (congrArg xs (nI_clamp (by omega))) ?_
  refine g_cc (g_rV (As := [.int (xs (5 * k + 1)), .int (xs (5 * k + 2)), .int (xs (5 * k + 3))]) hC hP (c_X4_weight l hP (q := xs (5 * k + 1)) (k := xs (5 * k + 2)) (v := xs (5 * k + 3)) hg hck) hg.1 rfl ⟨q1_182, q1_179, q1_180, q1_181, q1_1⟩ dd_X4_weight ⟨Nat.le_of_ble_eq_true rfl, Nat.le_of_ble_eq_true rfl, rfl, rfl⟩ hl.1 rfl (Nat.le_of_ble_eq_true rfl) dL_law_281 ⟨by show _ ≤ 653078; omega, by show _ ≤ 7143014; omega⟩) hS (fun q z => z.elim (hlo q) (fun z => Nat.le_trans hS.1 z)) (fun r1 H1 locs1 hq hS1 hz hfr => ?_)
  rw [hst] at hq
  obtain ⟨x, st1, hi1, hf⟩ : fnI (fun K => rWeight st K (xs (5 * k + 1)) (xs (5 * k + 2)) (xs (5 * k + 3))) := fn_weight hinv
  obtain ⟨rfl, hgt⟩ := hf _ hq
  have hP1 := gP_frame hP' hz hfr hdj2
  have hlH := hS.1
  replace hS := hS1
  refine W.eq (g2 := F0 m 284 ls [.int x]) rfl ?_
  refine lv_aload_n hx hb dL_law_284 rfl (lv_at hl 2 rfl) ?_
  refine lv_aload_n hx hb dL_law_285 rfl (lv_at hl 0 rfl) ?_
  refine lv_iload_n hx hb dL_law_286 rfl (lv_at hl 3 rfl) ?_
  refine lv_iconst (v := nI 1) hx hb dL_law_287 (by decide) ?_
  refine lv_iadd hx hb dL_law_288 ?_
  refine g_topi (y := nI (5 * k + 1)) (nI_add _ _) ?_
  refine va_sld hx hb hX hbl hbA hS (vp_in_nI (by omega) (by omega)) dL_law_289 ?_
  refine g_topi (y := xs (5 * k + 1)) (congrArg xs (nI_clamp (by omega))) ?_
  refine lv_aload_n hx hb dL_law_290 rfl (lv_at hl 0 rfl) ?_
  refine lv_iload_n hx hb dL_law_291 rfl (lv_at hl 3 rfl) ?_
  refine lv_iconst (v := nI 2) hx hb dL_law_292 (by decide) ?_
  refine lv_iadd hx hb dL_law_293 ?_
  refine g_topi (y := nI (5 * k + 2)) (nI_add _ _) ?_
  refine va_sld hx hb hX hbl hbA hS (vp_in_nI (by omega) (by omega)) dL_law_294 ?_
  refine g_topi (y := xs (5 * k + 2)) (congrArg xs (nI_clamp (by omega))) ?_
  refine lv_aload_n hx hb dL_law_295 rfl (lv_at hl 0 rfl) ?_
  refine lv_iload_n hx hb dL_law_296 rfl (lv_at hl 3 rfl) ?_
  refine lv_iconst (v := nI 3) hx hb dL_law_297 (by decide) ?_
  refine lv_iadd hx hb dL_law_298 ?_
  refine g_topi (y := nI (5 * k + 3)) (nI_add _ _) ?_
  refine va_sld hx hb hX hbl hbA hS (vp_in_nI (by omega) (by omega)) dL_law_299 ?_
  refine g_topi (y := xs (5 * k + 3)) (congrArg xs (nI_clamp (by omega))) ?_
  refine g_cc (g_rV (As := [.int (xs (5 * k + 1)), .int (xs (5 * k + 2)), .int (xs (5 * k + 3))]) hC hP1 (c_X5_weight l hP1 (h := h) (st := st) (q := xs (5 * k + 1)) (k := xs (5 * k + 2)) (v := xs (5 * k + 3)) hm hs0) hm.1 rfl ⟨q3_98, q3_95, q3_96, q3_97, q1_6⟩ dd_X5_weight ⟨Nat.le_of_ble_eq_true rfl, Nat.le_of_ble_eq_true rfl, rfl, rfl⟩ hl.1 rfl (Nat.le_of_ble_eq_true rfl) dL_law_300 ⟨by show _ ≤ 653078; omega, by show _ ≤ 7143014; omega⟩) hS (fun q z => z.elim (hlo' q) (fun z => Nat.le_trans hS.1 z)) (fun r2 H2 locs2 hq2 hS2 hz2 hfr2 => ?_)
  obtain ⟨rfl, hmo⟩ := hf _ hq2
  refine W.eq (g2 := F0 m 303 ls [.int x, .int x]) rfl ?_
  refine lv_icmp_eq (tgt := 754) hx hb dL_law_303 (by decide) (fun _ => ?_) (fun q => absurd rfl q)
  refine W.widen (k := 46 + 900 * (k + 1)) (n := 1964 + 3600 * (k + 1)) (by omega) (by omega) ?_
  refine kn st1 H2 locs2 (WD_mk hgt hmo hz2 hfr2 (fun q hq hl1 => ?_) hlo hlH hlo' hi1) hS2
  rcases hq with hq | hq
  · exact hdj q hq
  · exact Classical.byContradiction (fun z => absurd (hP'.lt z) (by omega))
set_option maxHeartbeats 4000000 in
set_option maxRecDepth 100000 in
theorem la_mean {p : Program} {l : Launch} {e : Env} {s : State} {m : MethodId} {below : List Frame} {meth : Method} {c : Code} {G : gG} {b L g h k : Nat} {xs : Nat → Int32} {st : GS} {H : Heap} {locs : List Loc} {ls : Array Slot} {nm : String} (hC : gC G p m c cL_law 4 s #[Value.ref b] RL meth ret nm) (hX : va_X b L xs s s.heap) (hbl : b < s.heap.size) (hS : va_S (fun q : Nat => s.heap.size ≤ q) s.heap H locs) (hW : WD G s.heap.size g h st H) (hk : 5 * k + 5 ≤ L) (hL : L ≤ 2560) (hl : lv_has ls 4 [(0, .ref b), (1, .ref g), (2, .ref h), (3, .int (nI (5 * k)))]) (kn : ∀ (st1 : GS) (H1 : Heap) (locs1 : List Loc), WD G s.heap.size g h st1 H1 → va_S (fun q : Nat => s.heap.size ≤ q) s.heap H1 locs1 → W p l e room_1 s m #[Value.ref b] below meth c H1 locs1 (46 + 900 * (k + 1)) (1964 + 3600 * (k + 1)) (lw_Z below #[Value.ref b] s) (F0 m 754 ls [])) : W p l e room_1 s m #[Value.ref b] below meth c H locs (46 + 900 * k) (1964 + 3600 * k) (lw_Z below #[Value.ref b] s) (F0 m 308 ls []) := by
  obtain ⟨T, I, J, Q, O, r, d, ck, cr, cd, Sr, Sd, T', I', J', Q', O', hP, hg, hck, hst, hP', hm, hs0, hdj, hlo, hlo', hinv⟩ := hW
  have hx := hC.1.1
  have hb := hC.1.2.1
  have hbA : ¬ (fun q : Nat => s.heap.size ≤ q) b := Nat.not_le.mpr hbl
  have hdj2 : ∀ q, (T' q).1 ≠ 0 → (T q).1 = 0 := fun q hq => Classical.byContradiction (fun z => hq (hdj q z))
  refine lv_aload_n hx hb dL_law_308 rfl (lv_at hl 1 rfl) ?_
  refine lv_aload_n hx hb dL_law_309 rfl (lv_at hl 0 rfl) ?_
  refine lv_iload_n hx hb dL_law_310 rfl (lv_at hl 3 rfl) ?_
  refine lv_iconst (v := nI 1) hx hb dL_law_311 (by decide) ?_
  refine lv_iadd hx hb dL_law_312 ?_
  refine g_topi (y := nI (5 * k + 1)) (nI_add _ _) ?_
  refine va_sld hx hb hX hbl hbA hS (vp_in_nI (by omega) (by omega)) dL_law_313 ?_
  refine g_topi (y := xs (5 * k + 1)) (congrArg xs (nI_clamp (by omega))) ?_
  refine lv_aload_n hx hb dL_law_314 rfl (lv_at hl 0 rfl) ?_
  refine lv_iload_n hx hb dL_law_315 rfl (lv_at hl 3 rfl) ?_
  refine lv_iconst (v := nI 2) hx hb dL_law_316 (by decide) ?_
  refine lv_iadd hx hb dL_law_317 ?_
  refine g_topi (y := nI (5 * k + 2)) (nI_add _ _) ?_
  refine va_sld hx hb hX hbl hbA hS (vp_in_nI (by omega) (by omega)) dL_law_318 ?_
  refine g_topi (y := xs (5 * k + 2)) (congrArg xs (nI_clamp (by omega))) ?_
  refine g_cc (g_rV (As := [.int (xs (5 * k + 1)), .int (xs (5 * k + 2))]) hC hP (c_X4_mean l hP (q := xs (5 * k + 1)) (f := xs (5 * k + 2)) hg hck) hg.1 rfl ⟨q1_190, q1_187, q1_188, q1_189, q1_1⟩ dd_X4_mean ⟨Nat.le_of_ble_eq_true rfl, Nat.le_of_ble_eq_true rfl, rfl, rfl⟩ hl.1 rfl (Nat.le_of_ble_eq_true rfl) dL_law_319 ⟨by show _ ≤ 653078; omega, by show _ ≤ 7143014; omega⟩) hS (fun q z => z.elim (hlo q) (fun z => Nat.le_trans hS.1 z)) (fun r1 H1 locs1 hq hS1 hz hfr => ?_)
  rw [hst] at hq
  obtain ⟨x, st1, hi1, hf⟩ : fnL (fun K => rMean st K (xs (5 * k + 1)) (xs (5 * k + 2))) := fn_mean hinv
  obtain ⟨rfl, hgt⟩ := hf _ hq
  have hP1 := gP_frame hP' hz hfr hdj2
  have hlH := hS.1
  replace hS := hS1
  refine W.eq (g2 := F0 m 322 ls [.long x]) rfl ?_
  refine lv_aload_n hx hb dL_law_322 rfl (lv_at hl 2 rfl) ?_
  refine lv_aload_n hx hb dL_law_323 rfl (lv_at hl 0 rfl) ?_
  refine lv_iload_n hx hb dL_law_324 rfl (lv_at hl 3 rfl) ?_
  refine lv_iconst (v := nI 1) hx hb dL_law_325 (by decide) ?_
  refine lv_iadd hx hb dL_law_326 ?_
  refine g_topi (y := nI (5 * k + 1)) (nI_add _ _) ?_
  refine va_sld hx hb hX hbl hbA hS (vp_in_nI (by omega) (by omega)) dL_law_327 ?_
  refine g_topi (y := xs (5 * k + 1)) (congrArg xs (nI_clamp (by omega))) ?_
  refine lv_aload_n hx hb dL_law_328 rfl (lv_at hl 0 rfl) ?_
  refine lv_iload_n hx hb dL_law_329 rfl (lv_at hl 3 rfl) ?_
  refine lv_iconst (v := nI 2) hx hb dL_law_330 (by decide) ?_
  refine lv_iadd hx hb dL_law_331 ?_
  refine g_topi (y := nI (5 * k + 2)) (nI_add _ _) ?_
  refine va_sld hx hb hX hbl hbA hS (vp_in_nI (by omega) (by omega)) dL_law_332 ?_
  refine g_topi (y := xs (5 * k + 2)) (congrArg xs (nI_clamp (by omega))) ?_
  refine g_cc (g_rV (As := [.int (xs (5 * k + 1)), .int (xs (5 * k + 2))]) hC hP1 (c_X5_mean l hP1 (h := h) (st := st) (q := xs (5 * k + 1)) (f := xs (5 * k + 2)) hm hs0 hinv.2.2.1 hinv.2.2.2.1 hinv.2.2.2.2.1 hinv.2.2.2.2.2.1) hm.1 rfl ⟨q3_103, q3_100, q3_101, q3_102, q1_6⟩ dd_X5_mean ⟨Nat.le_of_ble_eq_true rfl, Nat.le_of_ble_eq_true rfl, rfl, rfl⟩ hl.1 rfl (Nat.le_of_ble_eq_true rfl) dL_law_333 ⟨by show _ ≤ 653078; omega, by show _ ≤ 7143014; omega⟩) hS (fun q z => z.elim (hlo' q) (fun z => Nat.le_trans hS.1 z)) (fun r2 H2 locs2 hq2 hS2 hz2 hfr2 => ?_)
  obtain ⟨rfl, hmo⟩ := hf _ hq2
  refine W.eq (g2 := F0 m 336 ls [.long x, .long x]) rfl ?_
  refine W.lcmp hx hb dL_law_336 ?_
  refine lv_if_eq (tgt := 754) hx hb dL_law_337 (by decide) (fun _ => ?_) (fun q => absurd ((lg_cmp_eq _ _).mpr rfl) q)
  refine W.widen (k := 46 + 900 * (k + 1)) (n := 1964 + 3600 * (k + 1)) (by omega) (by omega) ?_
  refine kn st1 H2 locs2 (WD_mk hgt hmo hz2 hfr2 (fun q hq hl1 => ?_) hlo hlH hlo' hi1) hS2
  rcases hq with hq | hq
  · exact hdj q hq
  · exact Classical.byContradiction (fun z => absurd (hP'.lt z) (by omega))
set_option maxHeartbeats 4000000 in
set_option maxRecDepth 100000 in
theorem la_answers {p : Program} {l : Launch} {e : Env} {s : State} {m : MethodId} {below : List Frame} {meth : Method} {c : Code} {G : gG} {b L g h k : Nat} {xs : Nat → Int32} {st : GS} {H : Heap} {locs : List Loc} {ls : Array Slot} {nm : String} (hC : gC G p m c cL_law 4 s #[Value.ref b] RL meth ret nm) (hX : va_X b L xs s s.heap) (hbl : b < s.heap.size) (hS : va_S (fun q : Nat => s.heap.size ≤ q) s.heap H locs) (hW : WD G s.heap.size g h st H) (hk : 5 * k + 5 ≤ L) (hL : L ≤ 2560) (hl : lv_has ls 4 [(0, .ref b), (1, .ref g), (2, .ref h), (3, .int (nI (5 * k)))]) (kn : ∀ (st1 : GS) (H1 : Heap) (locs1 : List Loc), WD G s.heap.size g h st1 H1 → va_S (fun q : Nat => s.heap.size ≤ q) s.heap H1 locs1 → W p l e room_1 s m #[Value.ref b] below meth c H1 locs1 (46 + 900 * (k + 1)) (1964 + 3600 * (k + 1)) (lw_Z below #[Value.ref b] s) (F0 m 754 ls [])) : W p l e room_1 s m #[Value.ref b] below meth c H locs (46 + 900 * k) (1964 + 3600 * k) (lw_Z below #[Value.ref b] s) (F0 m 342 ls []) := by
  obtain ⟨T, I, J, Q, O, r, d, ck, cr, cd, Sr, Sd, T', I', J', Q', O', hP, hg, hck, hst, hP', hm, hs0, hdj, hlo, hlo', hinv⟩ := hW
  have hx := hC.1.1
  have hb := hC.1.2.1
  have hbA : ¬ (fun q : Nat => s.heap.size ≤ q) b := Nat.not_le.mpr hbl
  have hdj2 : ∀ q, (T' q).1 ≠ 0 → (T q).1 = 0 := fun q hq => Classical.byContradiction (fun z => hq (hdj q z))
  refine lv_aload_n hx hb dL_law_342 rfl (lv_at hl 1 rfl) ?_
  refine lv_aload_n hx hb dL_law_343 rfl (lv_at hl 0 rfl) ?_
  refine lv_iload_n hx hb dL_law_344 rfl (lv_at hl 3 rfl) ?_
  refine lv_iconst (v := nI 1) hx hb dL_law_345 (by decide) ?_
  refine lv_iadd hx hb dL_law_346 ?_
  refine g_topi (y := nI (5 * k + 1)) (nI_add _ _) ?_
  refine va_sld hx hb hX hbl hbA hS (vp_in_nI (by omega) (by omega)) dL_law_347 ?_
  refine g_topi (y := xs (5 * k + 1)) (congrArg xs (nI_clamp (by omega))) ?_
  refine g_cc (g_rV (As := [.int (xs (5 * k + 1))]) hC hP (c_X4_answers l hP (q := xs (5 * k + 1)) hg hck) hg.1 rfl ⟨q1_233, q1_230, q1_231, q1_232, q1_1⟩ dd_X4_answers ⟨Nat.le_of_ble_eq_true rfl, Nat.le_of_ble_eq_true rfl, rfl, rfl⟩ hl.1 rfl (Nat.le_of_ble_eq_true rfl) dL_law_348 ⟨by show _ ≤ 653078; omega, by show _ ≤ 7143014; omega⟩) hS (fun q z => z.elim (hlo q) (fun z => Nat.le_trans hS.1 z)) (fun r1 H1 locs1 hq hS1 hz hfr => ?_)
  rw [hst] at hq
  obtain ⟨x, st1, hi1, hf⟩ : fnI (fun K => rAnswers st K (xs (5 * k + 1))) := fn_answers hinv
  obtain ⟨rfl, hgt⟩ := hf _ hq
  have hP1 := gP_frame hP' hz hfr hdj2
  have hlH := hS.1
  replace hS := hS1
  refine W.eq (g2 := F0 m 351 ls [.int x]) rfl ?_
  refine lv_aload_n hx hb dL_law_351 rfl (lv_at hl 2 rfl) ?_
  refine lv_aload_n hx hb dL_law_352 rfl (lv_at hl 0 rfl) ?_
  refine lv_iload_n hx hb dL_law_353 rfl (lv_at hl 3 rfl) ?_
  refine lv_iconst (v := nI 1) hx hb dL_law_354 (by decide) ?_
  refine lv_iadd hx hb dL_law_355 ?_
  refine g_topi (y := nI (5 * k + 1)) (nI_add _ _) ?_
  refine va_sld hx hb hX hbl hbA hS (vp_in_nI (by omega) (by omega)) dL_law_356 ?_
  refine g_topi (y := xs (5 * k + 1)) (congrArg xs (nI_clamp (by omega))) ?_
  refine g_cc (g_rV (As := [.int (xs (5 * k + 1))]) hC hP1 (c_X5_answers l hP1 (h := h) (st := st) (q := xs (5 * k + 1)) hm hs0 hinv.2.2.2.2.1 hinv.2.2.2.2.2.1) hm.1 rfl ⟨q3_127, q3_124, q3_125, q3_126, q1_6⟩ dd_X5_answers ⟨Nat.le_of_ble_eq_true rfl, Nat.le_of_ble_eq_true rfl, rfl, rfl⟩ hl.1 rfl (Nat.le_of_ble_eq_true rfl) dL_law_357 ⟨by show _ ≤ 653078; omega, by show _ ≤ 7143014; omega⟩) hS (fun q z => z.elim (hlo' q) (fun z => Nat.le_trans hS.1 z)) (fun r2 H2 locs2 hq2 hS2 hz2 hfr2 => ?_)
  obtain ⟨rfl, hmo⟩ := hf _ hq2
  refine W.eq (g2 := F0 m 360 ls [.int x, .int x]) rfl ?_
  refine lv_icmp_eq (tgt := 754) hx hb dL_law_360 (by decide) (fun _ => ?_) (fun q => absurd rfl q)
  refine W.widen (k := 46 + 900 * (k + 1)) (n := 1964 + 3600 * (k + 1)) (by omega) (by omega) ?_
  refine kn st1 H2 locs2 (WD_mk hgt hmo hz2 hfr2 (fun q hq hl1 => ?_) hlo hlH hlo' hi1) hS2
  rcases hq with hq | hq
  · exact hdj q hq
  · exact Classical.byContradiction (fun z => absurd (hP'.lt z) (by omega))
set_option maxHeartbeats 4000000 in
set_option maxRecDepth 100000 in
theorem la_is {p : Program} {l : Launch} {e : Env} {s : State} {m : MethodId} {below : List Frame} {meth : Method} {c : Code} {G : gG} {b L g h k : Nat} {xs : Nat → Int32} {st : GS} {H : Heap} {locs : List Loc} {ls : Array Slot} {nm : String} (hC : gC G p m c cL_law 4 s #[Value.ref b] RL meth ret nm) (hX : va_X b L xs s s.heap) (hbl : b < s.heap.size) (hS : va_S (fun q : Nat => s.heap.size ≤ q) s.heap H locs) (hW : WD G s.heap.size g h st H) (hk : 5 * k + 5 ≤ L) (hL : L ≤ 2560) (hl : lv_has ls 4 [(0, .ref b), (1, .ref g), (2, .ref h), (3, .int (nI (5 * k)))]) (kn : ∀ (st1 : GS) (H1 : Heap) (locs1 : List Loc), WD G s.heap.size g h st1 H1 → va_S (fun q : Nat => s.heap.size ≤ q) s.heap H1 locs1 → W p l e room_1 s m #[Value.ref b] below meth c H1 locs1 (46 + 900 * (k + 1)) (1964 + 3600 * (k + 1)) (lw_Z below #[Value.ref b] s) (F0 m 754 ls [])) : W p l e room_1 s m #[Value.ref b] below meth c H locs (46 + 900 * k) (1964 + 3600 * k) (lw_Z below #[Value.ref b] s) (F0 m 365 ls []) := by
  obtain ⟨T, I, J, Q, O, r, d, ck, cr, cd, Sr, Sd, T', I', J', Q', O', hP, hg, hck, hst, hP', hm, hs0, hdj, hlo, hlo', hinv⟩ := hW
  have hx := hC.1.1
  have hb := hC.1.2.1
  have hbA : ¬ (fun q : Nat => s.heap.size ≤ q) b := Nat.not_le.mpr hbl
  have hdj2 : ∀ q, (T' q).1 ≠ 0 → (T q).1 = 0 := fun q hq => Classical.byContradiction (fun z => hq (hdj q z))
  refine lv_aload_n hx hb dL_law_365 rfl (lv_at hl 1 rfl) ?_
  refine g_cc (g_rV (As := []) hC hP (c_X4_is l hP  hg hck) hg.1 rfl ⟨q1_237, q1_234, q1_235, q1_236, q1_1⟩ dd_X4_is ⟨Nat.le_of_ble_eq_true rfl, Nat.le_of_ble_eq_true rfl, rfl, rfl⟩ hl.1 rfl (Nat.le_of_ble_eq_true rfl) dL_law_366 ⟨by show _ ≤ 653078; omega, by show _ ≤ 7143014; omega⟩) hS (fun q z => z.elim (hlo q) (fun z => Nat.le_trans hS.1 z)) (fun r1 H1 locs1 hq hS1 hz hfr => ?_)
  rw [hst] at hq
  obtain ⟨x, st1, hi1, hf⟩ : fnI (fun K => rIs st K ) := fn_is hinv
  obtain ⟨rfl, hgt⟩ := hf _ hq
  have hP1 := gP_frame hP' hz hfr hdj2
  have hlH := hS.1
  replace hS := hS1
  refine W.eq (g2 := F0 m 369 ls [.int x]) rfl ?_
  refine lv_aload_n hx hb dL_law_369 rfl (lv_at hl 2 rfl) ?_
  refine g_cc (g_rV (As := []) hC hP1 (c_X5_is l hP1 (h := h) (st := st)  hm hs0 hinv.2.2.2.2.1 hinv.2.2.2.2.2.1) hm.1 rfl ⟨q3_143, q3_140, q3_141, q3_142, q1_6⟩ dd_X5_is ⟨Nat.le_of_ble_eq_true rfl, Nat.le_of_ble_eq_true rfl, rfl, rfl⟩ hl.1 rfl (Nat.le_of_ble_eq_true rfl) dL_law_370 ⟨by show _ ≤ 653078; omega, by show _ ≤ 7143014; omega⟩) hS (fun q z => z.elim (hlo' q) (fun z => Nat.le_trans hS.1 z)) (fun r2 H2 locs2 hq2 hS2 hz2 hfr2 => ?_)
  obtain ⟨rfl, hmo⟩ := hf _ hq2
  refine W.eq (g2 := F0 m 373 ls [.int x, .int x]) rfl ?_
  refine lv_icmp_eq (tgt := 754) hx hb dL_law_373 (by decide) (fun _ => ?_) (fun q => absurd rfl q)
  refine W.widen (k := 46 + 900 * (k + 1)) (n := 1964 + 3600 * (k + 1)) (by omega) (by omega) ?_
  refine kn st1 H2 locs2 (WD_mk hgt hmo hz2 hfr2 (fun q hq hl1 => ?_) hlo hlH hlo' hi1) hS2
  rcases hq with hq | hq
  · exact hdj q hq
  · exact Classical.byContradiction (fun z => absurd (hP'.lt z) (by omega))
set_option maxHeartbeats 4000000 in
set_option maxRecDepth 100000 in
theorem la_why {p : Program} {l : Launch} {e : Env} {s : State} {m : MethodId} {below : List Frame} {meth : Method} {c : Code} {G : gG} {b L g h k : Nat} {xs : Nat → Int32} {st : GS} {H : Heap} {locs : List Loc} {ls : Array Slot} {nm : String} (hC : gC G p m c cL_law 4 s #[Value.ref b] RL meth ret nm) (hX : va_X b L xs s s.heap) (hbl : b < s.heap.size) (hS : va_S (fun q : Nat => s.heap.size ≤ q) s.heap H locs) (hW : WD G s.heap.size g h st H) (hk : 5 * k + 5 ≤ L) (hL : L ≤ 2560) (hl : lv_has ls 4 [(0, .ref b), (1, .ref g), (2, .ref h), (3, .int (nI (5 * k)))]) (kn : ∀ (st1 : GS) (H1 : Heap) (locs1 : List Loc), WD G s.heap.size g h st1 H1 → va_S (fun q : Nat => s.heap.size ≤ q) s.heap H1 locs1 → W p l e room_1 s m #[Value.ref b] below meth c H1 locs1 (46 + 900 * (k + 1)) (1964 + 3600 * (k + 1)) (lw_Z below #[Value.ref b] s) (F0 m 754 ls [])) : W p l e room_1 s m #[Value.ref b] below meth c H locs (46 + 900 * k) (1964 + 3600 * k) (lw_Z below #[Value.ref b] s) (F0 m 378 ls []) := by
  obtain ⟨T, I, J, Q, O, r, d, ck, cr, cd, Sr, Sd, T', I', J', Q', O', hP, hg, hck, hst, hP', hm, hs0, hdj, hlo, hlo', hinv⟩ := hW
  have hx := hC.1.1
  have hb := hC.1.2.1
  have hbA : ¬ (fun q : Nat => s.heap.size ≤ q) b := Nat.not_le.mpr hbl
  have hdj2 : ∀ q, (T' q).1 ≠ 0 → (T q).1 = 0 := fun q hq => Classical.byContradiction (fun z => hq (hdj q z))
  refine lv_aload_n hx hb dL_law_378 rfl (lv_at hl 1 rfl) ?_
  refine g_cc (g_rV (As := []) hC hP (c_X4_why l hP  hg hck) hg.1 rfl ⟨q2_5, q2_2, q2_3, q2_4, q1_1⟩ dd_X4_why ⟨Nat.le_of_ble_eq_true rfl, Nat.le_of_ble_eq_true rfl, rfl, rfl⟩ hl.1 rfl (Nat.le_of_ble_eq_true rfl) dL_law_379 ⟨by show _ ≤ 653078; omega, by show _ ≤ 7143014; omega⟩) hS (fun q z => z.elim (hlo q) (fun z => Nat.le_trans hS.1 z)) (fun r1 H1 locs1 hq hS1 hz hfr => ?_)
  rw [hst] at hq
  obtain ⟨x, st1, hi1, hf⟩ : fnI (fun K => rWhy st K ) := fn_why hinv
  obtain ⟨rfl, hgt⟩ := hf _ hq
  have hP1 := gP_frame hP' hz hfr hdj2
  have hlH := hS.1
  replace hS := hS1
  refine W.eq (g2 := F0 m 382 ls [.int x]) rfl ?_
  refine lv_aload_n hx hb dL_law_382 rfl (lv_at hl 2 rfl) ?_
  refine g_cc (g_rV (As := []) hC hP1 (c_X5_why l hP1 (h := h) (st := st)  hm hs0 hinv.2.2.2.2.1 hinv.2.2.2.2.2.1) hm.1 rfl ⟨q3_151, q3_148, q3_149, q3_150, q1_6⟩ dd_X5_why ⟨Nat.le_of_ble_eq_true rfl, Nat.le_of_ble_eq_true rfl, rfl, rfl⟩ hl.1 rfl (Nat.le_of_ble_eq_true rfl) dL_law_383 ⟨by show _ ≤ 653078; omega, by show _ ≤ 7143014; omega⟩) hS (fun q z => z.elim (hlo' q) (fun z => Nat.le_trans hS.1 z)) (fun r2 H2 locs2 hq2 hS2 hz2 hfr2 => ?_)
  obtain ⟨rfl, hmo⟩ := hf _ hq2
  refine W.eq (g2 := F0 m 386 ls [.int x, .int x]) rfl ?_
  refine lv_icmp_eq (tgt := 754) hx hb dL_law_386 (by decide) (fun _ => ?_) (fun q => absurd rfl q)
  refine W.widen (k := 46 + 900 * (k + 1)) (n := 1964 + 3600 * (k + 1)) (by omega) (by omega) ?_
  refine kn st1 H2 locs2 (WD_mk hgt hmo hz2 hfr2 (fun q hq hl1 => ?_) hlo hlH hlo' hi1) hS2
  rcases hq with hq | hq
  · exact hdj q hq
  · exact Classical.byContradiction (fun z => absurd (hP'.lt z) (by omega))
set_option maxHeartbeats 4000000 in
set_option maxRecDepth 100000 in
theorem la_worse {p : Program} {l : Launch} {e : Env} {s : State} {m : MethodId} {below : List Frame} {meth : Method} {c : Code} {G : gG} {b L g h k : Nat} {xs : Nat → Int32} {st : GS} {H : Heap} {locs : List Loc} {ls : Array Slot} {nm : String} (hC : gC G p m c cL_law 4 s #[Value.ref b] RL meth ret nm) (hX : va_X b L xs s s.heap) (hbl : b < s.heap.size) (hS : va_S (fun q : Nat => s.heap.size ≤ q) s.heap H locs) (hW : WD G s.heap.size g h st H) (hk : 5 * k + 5 ≤ L) (hL : L ≤ 2560) (hl : lv_has ls 4 [(0, .ref b), (1, .ref g), (2, .ref h), (3, .int (nI (5 * k)))]) (kn : ∀ (st1 : GS) (H1 : Heap) (locs1 : List Loc), WD G s.heap.size g h st1 H1 → va_S (fun q : Nat => s.heap.size ≤ q) s.heap H1 locs1 → W p l e room_1 s m #[Value.ref b] below meth c H1 locs1 (46 + 900 * (k + 1)) (1964 + 3600 * (k + 1)) (lw_Z below #[Value.ref b] s) (F0 m 754 ls [])) : W p l e room_1 s m #[Value.ref b] below meth c H locs (46 + 900 * k) (1964 + 3600 * k) (lw_Z below #[Value.ref b] s) (F0 m 391 ls []) := by
  obtain ⟨T, I, J, Q, O, r, d, ck, cr, cd, Sr, Sd, T', I', J', Q', O', hP, hg, hck, hst, hP', hm, hs0, hdj, hlo, hlo', hinv⟩ := hW
  have hx := hC.1.1
  have hb := hC.1.2.1
  have hbA : ¬ (fun q : Nat => s.heap.size ≤ q) b := Nat.not_le.mpr hbl
  have hdj2 : ∀ q, (T' q).1 ≠ 0 → (T q).1 = 0 := fun q hq => Classical.byContradiction (fun z => hq (hdj q z))
  refine lv_aload_n hx hb dL_law_391 rfl (lv_at hl 1 rfl) ?_
  refine lv_aload_n hx hb dL_law_392 rfl (lv_at hl 0 rfl) ?_
  refine lv_iload_n hx hb dL_law_393 rfl (lv_at hl 3 rfl) ?_
  refine lv_iconst (v := nI 1) hx hb dL_law_394 (by decide) ?_
  refine lv_iadd hx hb dL_law_395 ?_
  refine g_topi (y := nI (5 * k + 1)) (nI_add _ _) ?_
  refine va_sld hx hb hX hbl hbA hS (vp_in_nI (by omega) (by omega)) dL_law_396 ?_
  refine g_topi (y := xs (5 * k + 1)) (congrArg xs (nI_clamp (by omega))) ?_
  refine lv_aload_n hx hb dL_law_397 rfl (lv_at hl 0 rfl) ?_
  refine lv_iload_n hx hb dL_law_398 rfl (lv_at hl 3 rfl) ?_
  refine lv_iconst (v := nI 2) hx hb dL_law_399 (by decide) ?_
  refine lv_iadd hx hb dL_law_400 ?_
  refine g_topi (y := nI (5 * k + 2)) (nI_add _ _) ?_
  refine va_sld hx hb hX hbl hbA hS (vp_in_nI (by omega) (by omega)) dL_law_401 ?_
  refine g_topi (y := xs (5 * k + 2)) (congrArg xs (nI_clamp (by omega))) ?_
  refine g_cc (g_rV (As := [.int (xs (5 * k + 1)), .int (xs (5 * k + 2))]) hC hP (c_X4_worse l hP (q := xs (5 * k + 1)) (k := xs (5 * k + 2)) hg hck) hg.1 rfl ⟨q2_15, q2_12, q2_13, q2_14, q1_1⟩ dd_X4_worse ⟨Nat.le_of_ble_eq_true rfl, Nat.le_of_ble_eq_true rfl, rfl, rfl⟩ hl.1 rfl (Nat.le_of_ble_eq_true rfl) dL_law_402 ⟨by show _ ≤ 653078; omega, by show _ ≤ 7143014; omega⟩) hS (fun q z => z.elim (hlo q) (fun z => Nat.le_trans hS.1 z)) (fun r1 H1 locs1 hq hS1 hz hfr => ?_)
  rw [hst] at hq
  obtain ⟨x, st1, hi1, hf⟩ : fnI (fun K => rWorse st K (xs (5 * k + 1)) (xs (5 * k + 2))) := fn_worse hinv
  obtain ⟨rfl, hgt⟩ := hf _ hq
  have hP1 := gP_frame hP' hz hfr hdj2
  have hlH := hS.1
  replace hS := hS1
  refine W.eq (g2 := F0 m 405 ls [.int x]) rfl ?_
  refine lv_aload_n hx hb dL_law_405 rfl (lv_at hl 2 rfl) ?_
  refine lv_aload_n hx hb dL_law_406 rfl (lv_at hl 0 rfl) ?_
  refine lv_iload_n hx hb dL_law_407 rfl (lv_at hl 3 rfl) ?_
  refine lv_iconst (v := nI 1) hx hb dL_law_408 (by decide) ?_
  refine lv_iadd hx hb dL_law_409 ?_
  refine g_topi (y := nI (5 * k + 1)) (nI_add _ _) ?_
  refine va_sld hx hb hX hbl hbA hS (vp_in_nI (by omega) (by omega)) dL_law_410 ?_
  refine g_topi (y := xs (5 * k + 1)) (congrArg xs (nI_clamp (by omega))) ?_
  refine lv_aload_n hx hb dL_law_411 rfl (lv_at hl 0 rfl) ?_
  refine lv_iload_n hx hb dL_law_412 rfl (lv_at hl 3 rfl) ?_
  refine lv_iconst (v := nI 2) hx hb dL_law_413 (by decide) ?_
  refine lv_iadd hx hb dL_law_414 ?_
  refine g_topi (y := nI (5 * k + 2)) (nI_add _ _) ?_
  refine va_sld hx hb hX hbl hbA hS (vp_in_nI (by omega) (by omega)) dL_law_415 ?_
  refine g_topi (y := xs (5 * k + 2)) (congrArg xs (nI_clamp (by omega))) ?_
  refine g_cc (g_rV (As := [.int (xs (5 * k + 1)), .int (xs (5 * k + 2))]) hC hP1 (c_X5_worse l hP1 (h := h) (st := st) (q := xs (5 * k + 1)) (k := xs (5 * k + 2)) hm hs0) hm.1 rfl ⟨q3_155, q3_152, q3_153, q3_154, q1_6⟩ dd_X5_worse ⟨Nat.le_of_ble_eq_true rfl, Nat.le_of_ble_eq_true rfl, rfl, rfl⟩ hl.1 rfl (Nat.le_of_ble_eq_true rfl) dL_law_416 ⟨by show _ ≤ 653078; omega, by show _ ≤ 7143014; omega⟩) hS (fun q z => z.elim (hlo' q) (fun z => Nat.le_trans hS.1 z)) (fun r2 H2 locs2 hq2 hS2 hz2 hfr2 => ?_)
  obtain ⟨rfl, hmo⟩ := hf _ hq2
  refine W.eq (g2 := F0 m 419 ls [.int x, .int x]) rfl ?_
  refine lv_icmp_eq (tgt := 754) hx hb dL_law_419 (by decide) (fun _ => ?_) (fun q => absurd rfl q)
  refine W.widen (k := 46 + 900 * (k + 1)) (n := 1964 + 3600 * (k + 1)) (by omega) (by omega) ?_
  refine kn st1 H2 locs2 (WD_mk hgt hmo hz2 hfr2 (fun q hq hl1 => ?_) hlo hlH hlo' hi1) hS2
  rcases hq with hq | hq
  · exact hdj q hq
  · exact Classical.byContradiction (fun z => absurd (hP'.lt z) (by omega))
set_option maxHeartbeats 4000000 in
set_option maxRecDepth 100000 in
theorem la_left {p : Program} {l : Launch} {e : Env} {s : State} {m : MethodId} {below : List Frame} {meth : Method} {c : Code} {G : gG} {b L g h k : Nat} {xs : Nat → Int32} {st : GS} {H : Heap} {locs : List Loc} {ls : Array Slot} {nm : String} (hC : gC G p m c cL_law 4 s #[Value.ref b] RL meth ret nm) (hX : va_X b L xs s s.heap) (hbl : b < s.heap.size) (hS : va_S (fun q : Nat => s.heap.size ≤ q) s.heap H locs) (hW : WD G s.heap.size g h st H) (hk : 5 * k + 5 ≤ L) (hL : L ≤ 2560) (hl : lv_has ls 4 [(0, .ref b), (1, .ref g), (2, .ref h), (3, .int (nI (5 * k)))]) (kn : ∀ (st1 : GS) (H1 : Heap) (locs1 : List Loc), WD G s.heap.size g h st1 H1 → va_S (fun q : Nat => s.heap.size ≤ q) s.heap H1 locs1 → W p l e room_1 s m #[Value.ref b] below meth c H1 locs1 (46 + 900 * (k + 1)) (1964 + 3600 * (k + 1)) (lw_Z below #[Value.ref b] s) (F0 m 754 ls [])) : W p l e room_1 s m #[Value.ref b] below meth c H locs (46 + 900 * k) (1964 + 3600 * k) (lw_Z below #[Value.ref b] s) (F0 m 424 ls []) := by
  obtain ⟨T, I, J, Q, O, r, d, ck, cr, cd, Sr, Sd, T', I', J', Q', O', hP, hg, hck, hst, hP', hm, hs0, hdj, hlo, hlo', hinv⟩ := hW
  have hx := hC.1.1
  have hb := hC.1.2.1
  have hbA : ¬ (fun q : Nat => s.heap.size ≤ q) b := Nat.not_le.mpr hbl
  have hdj2 : ∀ q, (T' q).1 ≠ 0 → (T q).1 = 0 := fun q hq => Classical.byContradiction (fun z => hq (hdj q z))
  refine lv_aload_n hx hb dL_law_424 rfl (lv_at hl 1 rfl) ?_
  refine lv_aload_n hx hb dL_law_425 rfl (lv_at hl 0 rfl) ?_
  refine lv_iload_n hx hb dL_law_426 rfl (lv_at hl 3 rfl) ?_
  refine lv_iconst (v := nI 1) hx hb dL_law_427 (by decide) ?_
  refine lv_iadd hx hb dL_law_428 ?_
  refine g_topi (y := nI (5 * k + 1)) (nI_add _ _) ?_
  refine va_sld hx hb hX hbl hbA hS (vp_in_nI (by omega) (by omega)) dL_law_429 ?_
  refine g_topi (y := xs (5 * k + 1)) (congrArg xs (nI_clamp (by omega))) ?_
  refine g_cc (g_rV (As := [.int (xs (5 * k + 1))]) hC hP (c_X4_left l hP (q := xs (5 * k + 1)) hg hck) hg.1 rfl ⟨q2_32, q2_29, q2_30, q2_31, q1_1⟩ dd_X4_left ⟨Nat.le_of_ble_eq_true rfl, Nat.le_of_ble_eq_true rfl, rfl, rfl⟩ hl.1 rfl (Nat.le_of_ble_eq_true rfl) dL_law_430 ⟨by show _ ≤ 653078; omega, by show _ ≤ 7143014; omega⟩) hS (fun q z => z.elim (hlo q) (fun z => Nat.le_trans hS.1 z)) (fun r1 H1 locs1 hq hS1 hz hfr => ?_)
  rw [hst] at hq
  obtain ⟨x, st1, hi1, hf⟩ : fnI (fun K => rLeft st K (xs (5 * k + 1))) := fn_who hinv
  obtain ⟨rfl, hgt⟩ := hf _ hq
  have hP1 := gP_frame hP' hz hfr hdj2
  have hlH := hS.1
  replace hS := hS1
  refine W.eq (g2 := F0 m 433 ls [.int x]) rfl ?_
  refine lv_aload_n hx hb dL_law_433 rfl (lv_at hl 2 rfl) ?_
  refine lv_aload_n hx hb dL_law_434 rfl (lv_at hl 0 rfl) ?_
  refine lv_iload_n hx hb dL_law_435 rfl (lv_at hl 3 rfl) ?_
  refine lv_iconst (v := nI 1) hx hb dL_law_436 (by decide) ?_
  refine lv_iadd hx hb dL_law_437 ?_
  refine g_topi (y := nI (5 * k + 1)) (nI_add _ _) ?_
  refine va_sld hx hb hX hbl hbA hS (vp_in_nI (by omega) (by omega)) dL_law_438 ?_
  refine g_topi (y := xs (5 * k + 1)) (congrArg xs (nI_clamp (by omega))) ?_
  refine g_cc (g_rV (As := [.int (xs (5 * k + 1))]) hC hP1 (c_X5_left l hP1 (h := h) (st := st) (q := xs (5 * k + 1)) hm hs0) hm.1 rfl ⟨q3_163, q3_160, q3_161, q3_162, q1_6⟩ dd_X5_left ⟨Nat.le_of_ble_eq_true rfl, Nat.le_of_ble_eq_true rfl, rfl, rfl⟩ hl.1 rfl (Nat.le_of_ble_eq_true rfl) dL_law_439 ⟨by show _ ≤ 653078; omega, by show _ ≤ 7143014; omega⟩) hS (fun q z => z.elim (hlo' q) (fun z => Nat.le_trans hS.1 z)) (fun r2 H2 locs2 hq2 hS2 hz2 hfr2 => ?_)
  obtain ⟨rfl, hmo⟩ := hf _ hq2
  refine W.eq (g2 := F0 m 442 ls [.int x, .int x]) rfl ?_
  refine lv_icmp_eq (tgt := 754) hx hb dL_law_442 (by decide) (fun _ => ?_) (fun q => absurd rfl q)
  refine W.widen (k := 46 + 900 * (k + 1)) (n := 1964 + 3600 * (k + 1)) (by omega) (by omega) ?_
  refine kn st1 H2 locs2 (WD_mk hgt hmo hz2 hfr2 (fun q hq hl1 => ?_) hlo hlH hlo' hi1) hS2
  rcases hq with hq | hq
  · exact hdj q hq
  · exact Classical.byContradiction (fun z => absurd (hP'.lt z) (by omega))
set_option maxHeartbeats 4000000 in
set_option maxRecDepth 100000 in
theorem la_times {p : Program} {l : Launch} {e : Env} {s : State} {m : MethodId} {below : List Frame} {meth : Method} {c : Code} {G : gG} {b L g h k : Nat} {xs : Nat → Int32} {st : GS} {H : Heap} {locs : List Loc} {ls : Array Slot} {nm : String} (hC : gC G p m c cL_law 4 s #[Value.ref b] RL meth ret nm) (hX : va_X b L xs s s.heap) (hbl : b < s.heap.size) (hS : va_S (fun q : Nat => s.heap.size ≤ q) s.heap H locs) (hW : WD G s.heap.size g h st H) (hk : 5 * k + 5 ≤ L) (hL : L ≤ 2560) (hl : lv_has ls 4 [(0, .ref b), (1, .ref g), (2, .ref h), (3, .int (nI (5 * k)))]) (kn : ∀ (st1 : GS) (H1 : Heap) (locs1 : List Loc), WD G s.heap.size g h st1 H1 → va_S (fun q : Nat => s.heap.size ≤ q) s.heap H1 locs1 → W p l e room_1 s m #[Value.ref b] below meth c H1 locs1 (46 + 900 * (k + 1)) (1964 + 3600 * (k + 1)) (lw_Z below #[Value.ref b] s) (F0 m 754 ls [])) : W p l e room_1 s m #[Value.ref b] below meth c H locs (46 + 900 * k) (1964 + 3600 * k) (lw_Z below #[Value.ref b] s) (F0 m 447 ls []) := by
  obtain ⟨T, I, J, Q, O, r, d, ck, cr, cd, Sr, Sd, T', I', J', Q', O', hP, hg, hck, hst, hP', hm, hs0, hdj, hlo, hlo', hinv⟩ := hW
  have hx := hC.1.1
  have hb := hC.1.2.1
  have hbA : ¬ (fun q : Nat => s.heap.size ≤ q) b := Nat.not_le.mpr hbl
  have hdj2 : ∀ q, (T' q).1 ≠ 0 → (T q).1 = 0 := fun q hq => Classical.byContradiction (fun z => hq (hdj q z))
  refine lv_aload_n hx hb dL_law_447 rfl (lv_at hl 1 rfl) ?_
  refine g_cc (g_rV (As := []) hC hP (c_X4_times l hP  hg hck) hg.1 rfl ⟨q2_46, q2_43, q2_44, q2_45, q1_1⟩ dd_X4_times ⟨Nat.le_of_ble_eq_true rfl, Nat.le_of_ble_eq_true rfl, rfl, rfl⟩ hl.1 rfl (Nat.le_of_ble_eq_true rfl) dL_law_448 ⟨by show _ ≤ 653078; omega, by show _ ≤ 7143014; omega⟩) hS (fun q z => z.elim (hlo q) (fun z => Nat.le_trans hS.1 z)) (fun r1 H1 locs1 hq hS1 hz hfr => ?_)
  rw [hst] at hq
  obtain ⟨x, st1, hi1, hf⟩ : fnI (fun K => rTimes st K ) := fn_one hinv
  obtain ⟨rfl, hgt⟩ := hf _ hq
  have hP1 := gP_frame hP' hz hfr hdj2
  have hlH := hS.1
  replace hS := hS1
  refine W.eq (g2 := F0 m 451 ls [.int x]) rfl ?_
  refine lv_aload_n hx hb dL_law_451 rfl (lv_at hl 2 rfl) ?_
  refine g_cc (g_rV (As := []) hC hP1 (c_X5_times l hP1 (h := h) (st := st)  hm hs0) hm.1 rfl ⟨q3_171, q3_168, q3_169, q3_170, q1_6⟩ dd_X5_times ⟨Nat.le_of_ble_eq_true rfl, Nat.le_of_ble_eq_true rfl, rfl, rfl⟩ hl.1 rfl (Nat.le_of_ble_eq_true rfl) dL_law_452 ⟨by show _ ≤ 653078; omega, by show _ ≤ 7143014; omega⟩) hS (fun q z => z.elim (hlo' q) (fun z => Nat.le_trans hS.1 z)) (fun r2 H2 locs2 hq2 hS2 hz2 hfr2 => ?_)
  obtain ⟨rfl, hmo⟩ := hf _ hq2
  refine W.eq (g2 := F0 m 455 ls [.int x, .int x]) rfl ?_
  refine lv_icmp_eq (tgt := 754) hx hb dL_law_455 (by decide) (fun _ => ?_) (fun q => absurd rfl q)
  refine W.widen (k := 46 + 900 * (k + 1)) (n := 1964 + 3600 * (k + 1)) (by omega) (by omega) ?_
  refine kn st1 H2 locs2 (WD_mk hgt hmo hz2 hfr2 (fun q hq hl1 => ?_) hlo hlH hlo' hi1) hS2
  rcases hq with hq | hq
  · exact hdj q hq
  · exact Classical.byContradiction (fun z => absurd (hP'.lt z) (by omega))
set_option maxHeartbeats 4000000 in
set_option maxRecDepth 100000 in
theorem la_sure {p : Program} {l : Launch} {e : Env} {s : State} {m : MethodId} {below : List Frame} {meth : Method} {c : Code} {G : gG} {b L g h k : Nat} {xs : Nat → Int32} {st : GS} {H : Heap} {locs : List Loc} {ls : Array Slot} {nm : String} (hC : gC G p m c cL_law 4 s #[Value.ref b] RL meth ret nm) (hX : va_X b L xs s s.heap) (hbl : b < s.heap.size) (hS : va_S (fun q : Nat => s.heap.size ≤ q) s.heap H locs) (hW : WD G s.heap.size g h st H) (hk : 5 * k + 5 ≤ L) (hL : L ≤ 2560) (hl : lv_has ls 4 [(0, .ref b), (1, .ref g), (2, .ref h), (3, .int (nI (5 * k)))]) (kn : ∀ (st1 : GS) (H1 : Heap) (locs1 : List Loc), WD G s.heap.size g h st1 H1 → va_S (fun q : Nat => s.heap.size ≤ q) s.heap H1 locs1 → W p l e room_1 s m #[Value.ref b] below meth c H1 locs1 (46 + 900 * (k + 1)) (1964 + 3600 * (k + 1)) (lw_Z below #[Value.ref b] s) (F0 m 754 ls [])) : W p l e room_1 s m #[Value.ref b] below meth c H locs (46 + 900 * k) (1964 + 3600 * k) (lw_Z below #[Value.ref b] s) (F0 m 460 ls []) := by
  obtain ⟨T, I, J, Q, O, r, d, ck, cr, cd, Sr, Sd, T', I', J', Q', O', hP, hg, hck, hst, hP', hm, hs0, hdj, hlo, hlo', hinv⟩ := hW
  have hx := hC.1.1
  have hb := hC.1.2.1
  have hbA : ¬ (fun q : Nat => s.heap.size ≤ q) b := Nat.not_le.mpr hbl
  have hdj2 : ∀ q, (T' q).1 ≠ 0 → (T q).1 = 0 := fun q hq => Classical.byContradiction (fun z => hq (hdj q z))
  refine lv_aload_n hx hb dL_law_460 rfl (lv_at hl 1 rfl) ?_
  refine lv_aload_n hx hb dL_law_461 rfl (lv_at hl 0 rfl) ?_
  refine lv_iload_n hx hb dL_law_462 rfl (lv_at hl 3 rfl) ?_
  refine lv_iconst (v := nI 1) hx hb dL_law_463 (by decide) ?_
  refine lv_iadd hx hb dL_law_464 ?_
  refine g_topi (y := nI (5 * k + 1)) (nI_add _ _) ?_
  refine va_sld hx hb hX hbl hbA hS (vp_in_nI (by omega) (by omega)) dL_law_465 ?_
  refine g_topi (y := xs (5 * k + 1)) (congrArg xs (nI_clamp (by omega))) ?_
  refine g_cc (g_rV (As := [.int (xs (5 * k + 1))]) hC hP (c_X4_sure l hP (q := xs (5 * k + 1)) hg hck) hg.1 rfl ⟨q2_50, q2_47, q2_48, q2_49, q1_1⟩ dd_X4_sure ⟨Nat.le_of_ble_eq_true rfl, Nat.le_of_ble_eq_true rfl, rfl, rfl⟩ hl.1 rfl (Nat.le_of_ble_eq_true rfl) dL_law_466 ⟨by show _ ≤ 653078; omega, by show _ ≤ 7143014; omega⟩) hS (fun q z => z.elim (hlo q) (fun z => Nat.le_trans hS.1 z)) (fun r1 H1 locs1 hq hS1 hz hfr => ?_)
  rw [hst] at hq
  obtain ⟨x, st1, hi1, hf⟩ : fnI (fun K => rSure st K (xs (5 * k + 1))) := fn_who hinv
  obtain ⟨rfl, hgt⟩ := hf _ hq
  have hP1 := gP_frame hP' hz hfr hdj2
  have hlH := hS.1
  replace hS := hS1
  refine W.eq (g2 := F0 m 469 ls [.int x]) rfl ?_
  refine lv_aload_n hx hb dL_law_469 rfl (lv_at hl 2 rfl) ?_
  refine lv_aload_n hx hb dL_law_470 rfl (lv_at hl 0 rfl) ?_
  refine lv_iload_n hx hb dL_law_471 rfl (lv_at hl 3 rfl) ?_
  refine lv_iconst (v := nI 1) hx hb dL_law_472 (by decide) ?_
  refine lv_iadd hx hb dL_law_473 ?_
  refine g_topi (y := nI (5 * k + 1)) (nI_add _ _) ?_
  refine va_sld hx hb hX hbl hbA hS (vp_in_nI (by omega) (by omega)) dL_law_474 ?_
  refine g_topi (y := xs (5 * k + 1)) (congrArg xs (nI_clamp (by omega))) ?_
  refine g_cc (g_rV (As := [.int (xs (5 * k + 1))]) hC hP1 (c_X5_sure l hP1 (h := h) (st := st) (q := xs (5 * k + 1)) hm hs0 hinv.2.2.1 hinv.2.2.2.1) hm.1 rfl ⟨q3_175, q3_172, q3_173, q3_174, q1_6⟩ dd_X5_sure ⟨Nat.le_of_ble_eq_true rfl, Nat.le_of_ble_eq_true rfl, rfl, rfl⟩ hl.1 rfl (Nat.le_of_ble_eq_true rfl) dL_law_475 ⟨by show _ ≤ 653078; omega, by show _ ≤ 7143014; omega⟩) hS (fun q z => z.elim (hlo' q) (fun z => Nat.le_trans hS.1 z)) (fun r2 H2 locs2 hq2 hS2 hz2 hfr2 => ?_)
  obtain ⟨rfl, hmo⟩ := hf _ hq2
  refine W.eq (g2 := F0 m 478 ls [.int x, .int x]) rfl ?_
  refine lv_icmp_eq (tgt := 754) hx hb dL_law_478 (by decide) (fun _ => ?_) (fun q => absurd rfl q)
  refine W.widen (k := 46 + 900 * (k + 1)) (n := 1964 + 3600 * (k + 1)) (by omega) (by omega) ?_
  refine kn st1 H2 locs2 (WD_mk hgt hmo hz2 hfr2 (fun q hq hl1 => ?_) hlo hlH hlo' hi1) hS2
  rcases hq with hq | hq
  · exact hdj q hq
  · exact Classical.byContradiction (fun z => absurd (hP'.lt z) (by omega))
set_option maxHeartbeats 4000000 in
set_option maxRecDepth 100000 in
theorem la_hold {p : Program} {l : Launch} {e : Env} {s : State} {m : MethodId} {below : List Frame} {meth : Method} {c : Code} {G : gG} {b L g h k : Nat} {xs : Nat → Int32} {st : GS} {H : Heap} {locs : List Loc} {ls : Array Slot} {nm : String} (hC : gC G p m c cL_law 4 s #[Value.ref b] RL meth ret nm) (hX : va_X b L xs s s.heap) (hbl : b < s.heap.size) (hS : va_S (fun q : Nat => s.heap.size ≤ q) s.heap H locs) (hW : WD G s.heap.size g h st H) (hk : 5 * k + 5 ≤ L) (hL : L ≤ 2560) (hl : lv_has ls 4 [(0, .ref b), (1, .ref g), (2, .ref h), (3, .int (nI (5 * k)))]) (kn : ∀ (st1 : GS) (H1 : Heap) (locs1 : List Loc), WD G s.heap.size g h st1 H1 → va_S (fun q : Nat => s.heap.size ≤ q) s.heap H1 locs1 → W p l e room_1 s m #[Value.ref b] below meth c H1 locs1 (46 + 900 * (k + 1)) (1964 + 3600 * (k + 1)) (lw_Z below #[Value.ref b] s) (F0 m 754 ls [])) : W p l e room_1 s m #[Value.ref b] below meth c H locs (46 + 900 * k) (1964 + 3600 * k) (lw_Z below #[Value.ref b] s) (F0 m 483 ls []) := by
  obtain ⟨T, I, J, Q, O, r, d, ck, cr, cd, Sr, Sd, T', I', J', Q', O', hP, hg, hck, hst, hP', hm, hs0, hdj, hlo, hlo', hinv⟩ := hW
  have hx := hC.1.1
  have hb := hC.1.2.1
  have hbA : ¬ (fun q : Nat => s.heap.size ≤ q) b := Nat.not_le.mpr hbl
  have hdj2 : ∀ q, (T' q).1 ≠ 0 → (T q).1 = 0 := fun q hq => Classical.byContradiction (fun z => hq (hdj q z))
  refine lv_aload_n hx hb dL_law_483 rfl (lv_at hl 1 rfl) ?_
  refine lv_aload_n hx hb dL_law_484 rfl (lv_at hl 0 rfl) ?_
  refine lv_iload_n hx hb dL_law_485 rfl (lv_at hl 3 rfl) ?_
  refine lv_iconst (v := nI 1) hx hb dL_law_486 (by decide) ?_
  refine lv_iadd hx hb dL_law_487 ?_
  refine g_topi (y := nI (5 * k + 1)) (nI_add _ _) ?_
  refine va_sld hx hb hX hbl hbA hS (vp_in_nI (by omega) (by omega)) dL_law_488 ?_
  refine g_topi (y := xs (5 * k + 1)) (congrArg xs (nI_clamp (by omega))) ?_
  refine g_cc (g_rV (As := [.int (xs (5 * k + 1))]) hC hP (c_X4_hold l hP (q := xs (5 * k + 1)) hg hck) hg.1 rfl ⟨q2_68, q2_65, q2_66, q2_67, q1_1⟩ dd_X4_hold ⟨Nat.le_of_ble_eq_true rfl, Nat.le_of_ble_eq_true rfl, rfl, rfl⟩ hl.1 rfl (Nat.le_of_ble_eq_true rfl) dL_law_489 ⟨by show _ ≤ 653078; omega, by show _ ≤ 7143014; omega⟩) hS (fun q z => z.elim (hlo q) (fun z => Nat.le_trans hS.1 z)) (fun r1 H1 locs1 hq hS1 hz hfr => ?_)
  rw [hst] at hq
  obtain ⟨x, st1, hi1, hf⟩ : fnI (fun K => rHold st K (xs (5 * k + 1))) := fn_who hinv
  obtain ⟨rfl, hgt⟩ := hf _ hq
  have hP1 := gP_frame hP' hz hfr hdj2
  have hlH := hS.1
  replace hS := hS1
  refine W.eq (g2 := F0 m 492 ls [.int x]) rfl ?_
  refine lv_aload_n hx hb dL_law_492 rfl (lv_at hl 2 rfl) ?_
  refine lv_aload_n hx hb dL_law_493 rfl (lv_at hl 0 rfl) ?_
  refine lv_iload_n hx hb dL_law_494 rfl (lv_at hl 3 rfl) ?_
  refine lv_iconst (v := nI 1) hx hb dL_law_495 (by decide) ?_
  refine lv_iadd hx hb dL_law_496 ?_
  refine g_topi (y := nI (5 * k + 1)) (nI_add _ _) ?_
  refine va_sld hx hb hX hbl hbA hS (vp_in_nI (by omega) (by omega)) dL_law_497 ?_
  refine g_topi (y := xs (5 * k + 1)) (congrArg xs (nI_clamp (by omega))) ?_
  refine g_cc (g_rV (As := [.int (xs (5 * k + 1))]) hC hP1 (c_X5_hold l hP1 (h := h) (st := st) (q := xs (5 * k + 1)) hm hs0 hinv.2.2.1 hinv.2.2.2.1) hm.1 rfl ⟨q3_179, q3_176, q3_177, q3_178, q1_6⟩ dd_X5_hold ⟨Nat.le_of_ble_eq_true rfl, Nat.le_of_ble_eq_true rfl, rfl, rfl⟩ hl.1 rfl (Nat.le_of_ble_eq_true rfl) dL_law_498 ⟨by show _ ≤ 653078; omega, by show _ ≤ 7143014; omega⟩) hS (fun q z => z.elim (hlo' q) (fun z => Nat.le_trans hS.1 z)) (fun r2 H2 locs2 hq2 hS2 hz2 hfr2 => ?_)
  obtain ⟨rfl, hmo⟩ := hf _ hq2
  refine W.eq (g2 := F0 m 501 ls [.int x, .int x]) rfl ?_
  refine lv_icmp_eq (tgt := 754) hx hb dL_law_501 (by decide) (fun _ => ?_) (fun q => absurd rfl q)
  refine W.widen (k := 46 + 900 * (k + 1)) (n := 1964 + 3600 * (k + 1)) (by omega) (by omega) ?_
  refine kn st1 H2 locs2 (WD_mk hgt hmo hz2 hfr2 (fun q hq hl1 => ?_) hlo hlH hlo' hi1) hS2
  rcases hq with hq | hq
  · exact hdj q hq
  · exact Classical.byContradiction (fun z => absurd (hP'.lt z) (by omega))
set_option maxHeartbeats 4000000 in
set_option maxRecDepth 100000 in
theorem la_corners {p : Program} {l : Launch} {e : Env} {s : State} {m : MethodId} {below : List Frame} {meth : Method} {c : Code} {G : gG} {b L g h k : Nat} {xs : Nat → Int32} {st : GS} {H : Heap} {locs : List Loc} {ls : Array Slot} {nm : String} (hC : gC G p m c cL_law 4 s #[Value.ref b] RL meth ret nm) (hX : va_X b L xs s s.heap) (hbl : b < s.heap.size) (hS : va_S (fun q : Nat => s.heap.size ≤ q) s.heap H locs) (hW : WD G s.heap.size g h st H) (hk : 5 * k + 5 ≤ L) (hL : L ≤ 2560) (hl : lv_has ls 4 [(0, .ref b), (1, .ref g), (2, .ref h), (3, .int (nI (5 * k)))]) (kn : ∀ (st1 : GS) (H1 : Heap) (locs1 : List Loc), WD G s.heap.size g h st1 H1 → va_S (fun q : Nat => s.heap.size ≤ q) s.heap H1 locs1 → W p l e room_1 s m #[Value.ref b] below meth c H1 locs1 (46 + 900 * (k + 1)) (1964 + 3600 * (k + 1)) (lw_Z below #[Value.ref b] s) (F0 m 754 ls [])) : W p l e room_1 s m #[Value.ref b] below meth c H locs (46 + 900 * k) (1964 + 3600 * k) (lw_Z below #[Value.ref b] s) (F0 m 506 ls []) := by
  obtain ⟨T, I, J, Q, O, r, d, ck, cr, cd, Sr, Sd, T', I', J', Q', O', hP, hg, hck, hst, hP', hm, hs0, hdj, hlo, hlo', hinv⟩ := hW
  have hx := hC.1.1
  have hb := hC.1.2.1
  have hbA : ¬ (fun q : Nat => s.heap.size ≤ q) b := Nat.not_le.mpr hbl
  have hdj2 : ∀ q, (T' q).1 ≠ 0 → (T q).1 = 0 := fun q hq => Classical.byContradiction (fun z => hq (hdj q z))
  refine lv_aload_n hx hb dL_law_506 rfl (lv_at hl 1 rfl) ?_
  refine lv_aload_n hx hb dL_law_507 rfl (lv_at hl 0 rfl) ?_
  refine lv_iload_n hx hb dL_law_508 rfl (lv_at hl 3 rfl) ?_
  refine lv_iconst (v := nI 1) hx hb dL_law_509 (by decide) ?_
  refine lv_iadd hx hb dL_law_510 ?_
  refine g_topi (y := nI (5 * k + 1)) (nI_add _ _) ?_
  refine va_sld hx hb hX hbl hbA hS (vp_in_nI (by omega) (by omega)) dL_law_511 ?_
  refine g_topi (y := xs (5 * k + 1)) (congrArg xs (nI_clamp (by omega))) ?_
  refine g_cc (g_rV (As := [.int (xs (5 * k + 1))]) hC hP (c_X4_corners l hP (q := xs (5 * k + 1)) hg hck) hg.1 rfl ⟨q2_80, q2_77, q2_78, q2_79, q1_1⟩ dd_X4_corners ⟨Nat.le_of_ble_eq_true rfl, Nat.le_of_ble_eq_true rfl, rfl, rfl⟩ hl.1 rfl (Nat.le_of_ble_eq_true rfl) dL_law_512 ⟨by show _ ≤ 653078; omega, by show _ ≤ 7143014; omega⟩) hS (fun q z => z.elim (hlo q) (fun z => Nat.le_trans hS.1 z)) (fun r1 H1 locs1 hq hS1 hz hfr => ?_)
  rw [hst] at hq
  obtain ⟨x, st1, hi1, hf⟩ : fnI (fun K => rCorners st K (xs (5 * k + 1))) := fn_who hinv
  obtain ⟨rfl, hgt⟩ := hf _ hq
  have hP1 := gP_frame hP' hz hfr hdj2
  have hlH := hS.1
  replace hS := hS1
  refine W.eq (g2 := F0 m 515 ls [.int x]) rfl ?_
  refine lv_aload_n hx hb dL_law_515 rfl (lv_at hl 2 rfl) ?_
  refine lv_aload_n hx hb dL_law_516 rfl (lv_at hl 0 rfl) ?_
  refine lv_iload_n hx hb dL_law_517 rfl (lv_at hl 3 rfl) ?_
  refine lv_iconst (v := nI 1) hx hb dL_law_518 (by decide) ?_
  refine lv_iadd hx hb dL_law_519 ?_
  refine g_topi (y := nI (5 * k + 1)) (nI_add _ _) ?_
  refine va_sld hx hb hX hbl hbA hS (vp_in_nI (by omega) (by omega)) dL_law_520 ?_
  refine g_topi (y := xs (5 * k + 1)) (congrArg xs (nI_clamp (by omega))) ?_
  refine g_cc (g_rV (As := [.int (xs (5 * k + 1))]) hC hP1 (c_X5_corners l hP1 (h := h) (st := st) (q := xs (5 * k + 1)) hm hs0 hinv.2.2.1 hinv.2.2.2.1) hm.1 rfl ⟨q3_183, q3_180, q3_181, q3_182, q1_6⟩ dd_X5_corners ⟨Nat.le_of_ble_eq_true rfl, Nat.le_of_ble_eq_true rfl, rfl, rfl⟩ hl.1 rfl (Nat.le_of_ble_eq_true rfl) dL_law_521 ⟨by show _ ≤ 653078; omega, by show _ ≤ 7143014; omega⟩) hS (fun q z => z.elim (hlo' q) (fun z => Nat.le_trans hS.1 z)) (fun r2 H2 locs2 hq2 hS2 hz2 hfr2 => ?_)
  obtain ⟨rfl, hmo⟩ := hf _ hq2
  refine W.eq (g2 := F0 m 524 ls [.int x, .int x]) rfl ?_
  refine lv_icmp_eq (tgt := 754) hx hb dL_law_524 (by decide) (fun _ => ?_) (fun q => absurd rfl q)
  refine W.widen (k := 46 + 900 * (k + 1)) (n := 1964 + 3600 * (k + 1)) (by omega) (by omega) ?_
  refine kn st1 H2 locs2 (WD_mk hgt hmo hz2 hfr2 (fun q hq hl1 => ?_) hlo hlH hlo' hi1) hS2
  rcases hq with hq | hq
  · exact hdj q hq
  · exact Classical.byContradiction (fun z => absurd (hP'.lt z) (by omega))
set_option maxHeartbeats 4000000 in
set_option maxRecDepth 100000 in
theorem la_corner {p : Program} {l : Launch} {e : Env} {s : State} {m : MethodId} {below : List Frame} {meth : Method} {c : Code} {G : gG} {b L g h k : Nat} {xs : Nat → Int32} {st : GS} {H : Heap} {locs : List Loc} {ls : Array Slot} {nm : String} (hC : gC G p m c cL_law 4 s #[Value.ref b] RL meth ret nm) (hX : va_X b L xs s s.heap) (hbl : b < s.heap.size) (hS : va_S (fun q : Nat => s.heap.size ≤ q) s.heap H locs) (hW : WD G s.heap.size g h st H) (hk : 5 * k + 5 ≤ L) (hL : L ≤ 2560) (hl : lv_has ls 4 [(0, .ref b), (1, .ref g), (2, .ref h), (3, .int (nI (5 * k)))]) (kn : ∀ (st1 : GS) (H1 : Heap) (locs1 : List Loc), WD G s.heap.size g h st1 H1 → va_S (fun q : Nat => s.heap.size ≤ q) s.heap H1 locs1 → W p l e room_1 s m #[Value.ref b] below meth c H1 locs1 (46 + 900 * (k + 1)) (1964 + 3600 * (k + 1)) (lw_Z below #[Value.ref b] s) (F0 m 754 ls [])) : W p l e room_1 s m #[Value.ref b] below meth c H locs (46 + 900 * k) (1964 + 3600 * k) (lw_Z below #[Value.ref b] s) (F0 m 529 ls []) := by
  obtain ⟨T, I, J, Q, O, r, d, ck, cr, cd, Sr, Sd, T', I', J', Q', O', hP, hg, hck, hst, hP', hm, hs0, hdj, hlo, hlo', hinv⟩ := hW
  have hx := hC.1.1
  have hb := hC.1.2.1
  have hbA : ¬ (fun q : Nat => s.heap.size ≤ q) b := Nat.not_le.mpr hbl
  have hdj2 : ∀ q, (T' q).1 ≠ 0 → (T q).1 = 0 := fun q hq => Classical.byContradiction (fun z => hq (hdj q z))
  refine lv_aload_n hx hb dL_law_529 rfl (lv_at hl 1 rfl) ?_
  refine lv_aload_n hx hb dL_law_530 rfl (lv_at hl 0 rfl) ?_
  refine lv_iload_n hx hb dL_law_531 rfl (lv_at hl 3 rfl) ?_
  refine lv_iconst (v := nI 1) hx hb dL_law_532 (by decide) ?_
  refine lv_iadd hx hb dL_law_533 ?_
  refine g_topi (y := nI (5 * k + 1)) (nI_add _ _) ?_
  refine va_sld hx hb hX hbl hbA hS (vp_in_nI (by omega) (by omega)) dL_law_534 ?_
  refine g_topi (y := xs (5 * k + 1)) (congrArg xs (nI_clamp (by omega))) ?_
  refine lv_aload_n hx hb dL_law_535 rfl (lv_at hl 0 rfl) ?_
  refine lv_iload_n hx hb dL_law_536 rfl (lv_at hl 3 rfl) ?_
  refine lv_iconst (v := nI 2) hx hb dL_law_537 (by decide) ?_
  refine lv_iadd hx hb dL_law_538 ?_
  refine g_topi (y := nI (5 * k + 2)) (nI_add _ _) ?_
  refine va_sld hx hb hX hbl hbA hS (vp_in_nI (by omega) (by omega)) dL_law_539 ?_
  refine g_topi (y := xs (5 * k + 2)) (congrArg xs (nI_clamp (by omega))) ?_
  refine lv_aload_n hx hb dL_law_540 rfl (lv_at hl 0 rfl) ?_
  refine lv_iload_n hx hb dL_law_541 rfl (lv_at hl 3 rfl) ?_
  refine lv_iconst (v := nI 3) hx hb dL_law_542 (by decide) ?_
  refine lv_iadd hx hb dL_law_543 ?_
  refine g_topi (y := nI (5 * k + 3)) (nI_add _ _) ?_
  refine va_sld hx hb hX hbl hbA hS (vp_in_nI (by omega) (by omega)) dL_law_544 ?_
  refine g_topi (y := xs (5 * k + 3)) (congrArg xs (nI_clamp (by omega))) ?_
  refine lv_aload_n hx hb dL_law_545 rfl (lv_at hl 0 rfl) ?_
  refine lv_iload_n hx hb dL_law_546 rfl (lv_at hl 3 rfl) ?_
  refine lv_iconst (v := nI 4) hx hb dL_law_547 (by decide) ?_
  refine lv_iadd hx hb dL_law_548 ?_
  refine g_topi (y := nI (5 * k + 4)) (nI_add _ _) ?_
  refine va_sld hx hb hX hbl hbA hS (vp_in_nI (by omega) (by omega)) dL_law_549 ?_
  refine g_topi (y := xs (5 * k + 4)) (congrArg xs (nI_clamp (by omega))) ?_
  refine g_cc (g_rV (As := [.int (xs (5 * k + 1)), .int (xs (5 * k + 2)), .int (xs (5 * k + 3)), .int (xs (5 * k + 4))]) hC hP (c_X4_corner l hP (q := xs (5 * k + 1)) (cc := xs (5 * k + 2)) (k := xs (5 * k + 3)) (f := xs (5 * k + 4)) hg hck) hg.1 rfl ⟨q2_149, q2_146, q2_147, q2_148, q1_1⟩ dd_X4_corner ⟨Nat.le_of_ble_eq_true rfl, Nat.le_of_ble_eq_true rfl, rfl, rfl⟩ hl.1 rfl (Nat.le_of_ble_eq_true rfl) dL_law_550 ⟨by show _ ≤ 653078; omega, by show _ ≤ 7143014; omega⟩) hS (fun q z => z.elim (hlo q) (fun z => Nat.le_trans hS.1 z)) (fun r1 H1 locs1 hq hS1 hz hfr => ?_)
  rw [hst] at hq
  obtain ⟨x, st1, hi1, hf⟩ : fnI (fun K => rCorner st K (xs (5 * k + 1)) (xs (5 * k + 2)) (xs (5 * k + 3)) (xs (5 * k + 4))) := fn_corner hinv
  obtain ⟨rfl, hgt⟩ := hf _ hq
  have hP1 := gP_frame hP' hz hfr hdj2
  have hlH := hS.1
  replace hS := hS1
  refine W.eq (g2 := F0 m 553 ls [.int x]) rfl ?_
  refine lv_aload_n hx hb dL_law_553 rfl (lv_at hl 2 rfl) ?_
  refine lv_aload_n hx hb dL_law_554 rfl (lv_at hl 0 rfl) ?_
  refine lv_iload_n hx hb dL_law_555 rfl (lv_at hl 3 rfl) ?_
  refine lv_iconst (v := nI 1) hx hb dL_law_556 (by decide) ?_
  refine lv_iadd hx hb dL_law_557 ?_
  refine g_topi (y := nI (5 * k + 1)) (nI_add _ _) ?_
  refine va_sld hx hb hX hbl hbA hS (vp_in_nI (by omega) (by omega)) dL_law_558 ?_
  refine g_topi (y := xs (5 * k + 1)) (congrArg xs (nI_clamp (by omega))) ?_
  refine lv_aload_n hx hb dL_law_559 rfl (lv_at hl 0 rfl) ?_
  refine lv_iload_n hx hb dL_law_560 rfl (lv_at hl 3 rfl) ?_
  refine lv_iconst (v := nI 2) hx hb dL_law_561 (by decide) ?_
  refine lv_iadd hx hb dL_law_562 ?_
  refine g_topi (y := nI (5 * k + 2)) (nI_add _ _) ?_
  refine va_sld hx hb hX hbl hbA hS (vp_in_nI (by omega) (by omega)) dL_law_563 ?_
  refine g_topi (y := xs (5 * k + 2)) (congrArg xs (nI_clamp (by omega))) ?_
  refine lv_aload_n hx hb dL_law_564 rfl (lv_at hl 0 rfl) ?_
  refine lv_iload_n hx hb dL_law_565 rfl (lv_at hl 3 rfl) ?_
  refine lv_iconst (v := nI 3) hx hb dL_law_566 (by decide) ?_
  refine lv_iadd hx hb dL_law_567 ?_
  refine g_topi (y := nI (5 * k + 3)) (nI_add _ _) ?_
  refine va_sld hx hb hX hbl hbA hS (vp_in_nI (by omega) (by omega)) dL_law_568 ?_
  refine g_topi (y := xs (5 * k + 3)) (congrArg xs (nI_clamp (by omega))) ?_
  refine lv_aload_n hx hb dL_law_569 rfl (lv_at hl 0 rfl) ?_
  refine lv_iload_n hx hb dL_law_570 rfl (lv_at hl 3 rfl) ?_
  refine lv_iconst (v := nI 4) hx hb dL_law_571 (by decide) ?_
  refine lv_iadd hx hb dL_law_572 ?_
  refine g_topi (y := nI (5 * k + 4)) (nI_add _ _) ?_
  refine va_sld hx hb hX hbl hbA hS (vp_in_nI (by omega) (by omega)) dL_law_573 ?_
  refine g_topi (y := xs (5 * k + 4)) (congrArg xs (nI_clamp (by omega))) ?_
  refine g_cc (g_rV (As := [.int (xs (5 * k + 1)), .int (xs (5 * k + 2)), .int (xs (5 * k + 3)), .int (xs (5 * k + 4))]) hC hP1 (c_X5_corner l hP1 (h := h) (st := st) (q := xs (5 * k + 1)) (cc := xs (5 * k + 2)) (j := xs (5 * k + 3)) (f := xs (5 * k + 4)) hm hs0 hinv.2.2.1 hinv.2.2.2.1) hm.1 rfl ⟨q3_213, q3_210, q3_211, q3_212, q1_6⟩ dd_X5_corner ⟨Nat.le_of_ble_eq_true rfl, Nat.le_of_ble_eq_true rfl, rfl, rfl⟩ hl.1 rfl (Nat.le_of_ble_eq_true rfl) dL_law_574 ⟨by show _ ≤ 653078; omega, by show _ ≤ 7143014; omega⟩) hS (fun q z => z.elim (hlo' q) (fun z => Nat.le_trans hS.1 z)) (fun r2 H2 locs2 hq2 hS2 hz2 hfr2 => ?_)
  obtain ⟨rfl, hmo⟩ := hf _ hq2
  refine W.eq (g2 := F0 m 577 ls [.int x, .int x]) rfl ?_
  refine lv_icmp_eq (tgt := 754) hx hb dL_law_577 (by decide) (fun _ => ?_) (fun q => absurd rfl q)
  refine W.widen (k := 46 + 900 * (k + 1)) (n := 1964 + 3600 * (k + 1)) (by omega) (by omega) ?_
  refine kn st1 H2 locs2 (WD_mk hgt hmo hz2 hfr2 (fun q hq hl1 => ?_) hlo hlH hlo' hi1) hS2
  rcases hq with hq | hq
  · exact hdj q hq
  · exact Classical.byContradiction (fun z => absurd (hP'.lt z) (by omega))
set_option maxHeartbeats 4000000 in
set_option maxRecDepth 100000 in
theorem la_balances {p : Program} {l : Launch} {e : Env} {s : State} {m : MethodId} {below : List Frame} {meth : Method} {c : Code} {G : gG} {b L g h k : Nat} {xs : Nat → Int32} {st : GS} {H : Heap} {locs : List Loc} {ls : Array Slot} {nm : String} (hC : gC G p m c cL_law 4 s #[Value.ref b] RL meth ret nm) (hX : va_X b L xs s s.heap) (hbl : b < s.heap.size) (hS : va_S (fun q : Nat => s.heap.size ≤ q) s.heap H locs) (hW : WD G s.heap.size g h st H) (hk : 5 * k + 5 ≤ L) (hL : L ≤ 2560) (hl : lv_has ls 4 [(0, .ref b), (1, .ref g), (2, .ref h), (3, .int (nI (5 * k)))]) (kn : ∀ (st1 : GS) (H1 : Heap) (locs1 : List Loc), WD G s.heap.size g h st1 H1 → va_S (fun q : Nat => s.heap.size ≤ q) s.heap H1 locs1 → W p l e room_1 s m #[Value.ref b] below meth c H1 locs1 (46 + 900 * (k + 1)) (1964 + 3600 * (k + 1)) (lw_Z below #[Value.ref b] s) (F0 m 754 ls [])) : W p l e room_1 s m #[Value.ref b] below meth c H locs (46 + 900 * k) (1964 + 3600 * k) (lw_Z below #[Value.ref b] s) (F0 m 582 ls []) := by
  obtain ⟨T, I, J, Q, O, r, d, ck, cr, cd, Sr, Sd, T', I', J', Q', O', hP, hg, hck, hst, hP', hm, hs0, hdj, hlo, hlo', hinv⟩ := hW
  have hx := hC.1.1
  have hb := hC.1.2.1
  have hbA : ¬ (fun q : Nat => s.heap.size ≤ q) b := Nat.not_le.mpr hbl
  have hdj2 : ∀ q, (T' q).1 ≠ 0 → (T q).1 = 0 := fun q hq => Classical.byContradiction (fun z => hq (hdj q z))
  refine lv_aload_n hx hb dL_law_582 rfl (lv_at hl 1 rfl) ?_
  refine g_cc (g_rV (As := []) hC hP (c_X4_balances l hP  hg hck) hg.1 rfl ⟨q2_158, q2_155, q2_156, q2_157, q1_1⟩ dd_X4_balances ⟨Nat.le_of_ble_eq_true rfl, Nat.le_of_ble_eq_true rfl, rfl, rfl⟩ hl.1 rfl (Nat.le_of_ble_eq_true rfl) dL_law_583 ⟨by show _ ≤ 653078; omega, by show _ ≤ 7143014; omega⟩) hS (fun q z => z.elim (hlo q) (fun z => Nat.le_trans hS.1 z)) (fun r1 H1 locs1 hq hS1 hz hfr => ?_)
  rw [hst] at hq
  obtain ⟨x, st1, hi1, hf⟩ : fnI (fun K => rBalances st K ) := fn_one hinv
  obtain ⟨rfl, hgt⟩ := hf _ hq
  have hP1 := gP_frame hP' hz hfr hdj2
  have hlH := hS.1
  replace hS := hS1
  refine W.eq (g2 := F0 m 586 ls [.int x]) rfl ?_
  refine lv_aload_n hx hb dL_law_586 rfl (lv_at hl 2 rfl) ?_
  refine g_cc (g_rV (As := []) hC hP1 (c_X5_balances l hP1 (h := h) (st := st)  hm hs0 hinv.2.2.1 hinv.2.2.2.1) hm.1 rfl ⟨q3_217, q3_214, q3_215, q3_216, q1_6⟩ dd_X5_balances ⟨Nat.le_of_ble_eq_true rfl, Nat.le_of_ble_eq_true rfl, rfl, rfl⟩ hl.1 rfl (Nat.le_of_ble_eq_true rfl) dL_law_587 ⟨by show _ ≤ 653078; omega, by show _ ≤ 7143014; omega⟩) hS (fun q z => z.elim (hlo' q) (fun z => Nat.le_trans hS.1 z)) (fun r2 H2 locs2 hq2 hS2 hz2 hfr2 => ?_)
  obtain ⟨rfl, hmo⟩ := hf _ hq2
  refine W.eq (g2 := F0 m 590 ls [.int x, .int x]) rfl ?_
  refine lv_icmp_eq (tgt := 754) hx hb dL_law_590 (by decide) (fun _ => ?_) (fun q => absurd rfl q)
  refine W.widen (k := 46 + 900 * (k + 1)) (n := 1964 + 3600 * (k + 1)) (by omega) (by omega) ?_
  refine kn st1 H2 locs2 (WD_mk hgt hmo hz2 hfr2 (fun q hq hl1 => ?_) hlo hlH hlo' hi1) hS2
  rcases hq with hq | hq
  · exact hdj q hq
  · exact Classical.byContradiction (fun z => absurd (hP'.lt z) (by omega))
set_option maxHeartbeats 4000000 in
set_option maxRecDepth 100000 in
theorem la_balance {p : Program} {l : Launch} {e : Env} {s : State} {m : MethodId} {below : List Frame} {meth : Method} {c : Code} {G : gG} {b L g h k : Nat} {xs : Nat → Int32} {st : GS} {H : Heap} {locs : List Loc} {ls : Array Slot} {nm : String} (hC : gC G p m c cL_law 4 s #[Value.ref b] RL meth ret nm) (hX : va_X b L xs s s.heap) (hbl : b < s.heap.size) (hS : va_S (fun q : Nat => s.heap.size ≤ q) s.heap H locs) (hW : WD G s.heap.size g h st H) (hk : 5 * k + 5 ≤ L) (hL : L ≤ 2560) (hl : lv_has ls 4 [(0, .ref b), (1, .ref g), (2, .ref h), (3, .int (nI (5 * k)))]) (kn : ∀ (st1 : GS) (H1 : Heap) (locs1 : List Loc), WD G s.heap.size g h st1 H1 → va_S (fun q : Nat => s.heap.size ≤ q) s.heap H1 locs1 → W p l e room_1 s m #[Value.ref b] below meth c H1 locs1 (46 + 900 * (k + 1)) (1964 + 3600 * (k + 1)) (lw_Z below #[Value.ref b] s) (F0 m 754 ls [])) : W p l e room_1 s m #[Value.ref b] below meth c H locs (46 + 900 * k) (1964 + 3600 * k) (lw_Z below #[Value.ref b] s) (F0 m 595 ls []) := by
  obtain ⟨T, I, J, Q, O, r, d, ck, cr, cd, Sr, Sd, T', I', J', Q', O', hP, hg, hck, hst, hP', hm, hs0, hdj, hlo, hlo', hinv⟩ := hW
  have hx := hC.1.1
  have hb := hC.1.2.1
  have hbA : ¬ (fun q : Nat => s.heap.size ≤ q) b := Nat.not_le.mpr hbl
  have hdj2 : ∀ q, (T' q).1 ≠ 0 → (T q).1 = 0 := fun q hq => Classical.byContradiction (fun z => hq (hdj q z))
  refine lv_aload_n hx hb dL_law_595 rfl (lv_at hl 1 rfl) ?_
  refine lv_aload_n hx hb dL_law_596 rfl (lv_at hl 0 rfl) ?_
  refine lv_iload_n hx hb dL_law_597 rfl (lv_at hl 3 rfl) ?_
  refine lv_iconst (v := nI 1) hx hb dL_law_598 (by decide) ?_
  refine lv_iadd hx hb dL_law_599 ?_
  refine g_topi (y := nI (5 * k + 1)) (nI_add _ _) ?_
  refine va_sld hx hb hX hbl hbA hS (vp_in_nI (by omega) (by omega)) dL_law_600 ?_
  refine g_topi (y := xs (5 * k + 1)) (congrArg xs (nI_clamp (by omega))) ?_
  refine lv_aload_n hx hb dL_law_601 rfl (lv_at hl 0 rfl) ?_
  refine lv_iload_n hx hb dL_law_602 rfl (lv_at hl 3 rfl) ?_
  refine lv_iconst (v := nI 2) hx hb dL_law_603 (by decide) ?_
  refine lv_iadd hx hb dL_law_604 ?_
  refine g_topi (y := nI (5 * k + 2)) (nI_add _ _) ?_
  refine va_sld hx hb hX hbl hbA hS (vp_in_nI (by omega) (by omega)) dL_law_605 ?_
  refine g_topi (y := xs (5 * k + 2)) (congrArg xs (nI_clamp (by omega))) ?_
  refine g_cc (g_rV (As := [.int (xs (5 * k + 1)), .int (xs (5 * k + 2))]) hC hP (c_X4_balance l hP (b := xs (5 * k + 1)) (f := xs (5 * k + 2)) hg hck) hg.1 rfl ⟨q2_170, q2_167, q2_168, q2_169, q1_1⟩ dd_X4_balance ⟨Nat.le_of_ble_eq_true rfl, Nat.le_of_ble_eq_true rfl, rfl, rfl⟩ hl.1 rfl (Nat.le_of_ble_eq_true rfl) dL_law_606 ⟨by show _ ≤ 653078; omega, by show _ ≤ 7143014; omega⟩) hS (fun q z => z.elim (hlo q) (fun z => Nat.le_trans hS.1 z)) (fun r1 H1 locs1 hq hS1 hz hfr => ?_)
  rw [hst] at hq
  obtain ⟨x, st1, hi1, hf⟩ : fnL (fun K => rBalance st K (xs (5 * k + 1)) (xs (5 * k + 2))) := fn_balance hinv
  obtain ⟨rfl, hgt⟩ := hf _ hq
  have hP1 := gP_frame hP' hz hfr hdj2
  have hlH := hS.1
  replace hS := hS1
  refine W.eq (g2 := F0 m 609 ls [.long x]) rfl ?_
  refine lv_aload_n hx hb dL_law_609 rfl (lv_at hl 2 rfl) ?_
  refine lv_aload_n hx hb dL_law_610 rfl (lv_at hl 0 rfl) ?_
  refine lv_iload_n hx hb dL_law_611 rfl (lv_at hl 3 rfl) ?_
  refine lv_iconst (v := nI 1) hx hb dL_law_612 (by decide) ?_
  refine lv_iadd hx hb dL_law_613 ?_
  refine g_topi (y := nI (5 * k + 1)) (nI_add _ _) ?_
  refine va_sld hx hb hX hbl hbA hS (vp_in_nI (by omega) (by omega)) dL_law_614 ?_
  refine g_topi (y := xs (5 * k + 1)) (congrArg xs (nI_clamp (by omega))) ?_
  refine lv_aload_n hx hb dL_law_615 rfl (lv_at hl 0 rfl) ?_
  refine lv_iload_n hx hb dL_law_616 rfl (lv_at hl 3 rfl) ?_
  refine lv_iconst (v := nI 2) hx hb dL_law_617 (by decide) ?_
  refine lv_iadd hx hb dL_law_618 ?_
  refine g_topi (y := nI (5 * k + 2)) (nI_add _ _) ?_
  refine va_sld hx hb hX hbl hbA hS (vp_in_nI (by omega) (by omega)) dL_law_619 ?_
  refine g_topi (y := xs (5 * k + 2)) (congrArg xs (nI_clamp (by omega))) ?_
  refine g_cc (g_rV (As := [.int (xs (5 * k + 1)), .int (xs (5 * k + 2))]) hC hP1 (c_X5_balance l hP1 (h := h) (st := st) (b := xs (5 * k + 1)) (f := xs (5 * k + 2)) hm hs0 hinv.2.2.1 hinv.2.2.2.1) hm.1 rfl ⟨q3_225, q3_222, q3_223, q3_224, q1_6⟩ dd_X5_balance ⟨Nat.le_of_ble_eq_true rfl, Nat.le_of_ble_eq_true rfl, rfl, rfl⟩ hl.1 rfl (Nat.le_of_ble_eq_true rfl) dL_law_620 ⟨by show _ ≤ 653078; omega, by show _ ≤ 7143014; omega⟩) hS (fun q z => z.elim (hlo' q) (fun z => Nat.le_trans hS.1 z)) (fun r2 H2 locs2 hq2 hS2 hz2 hfr2 => ?_)
  obtain ⟨rfl, hmo⟩ := hf _ hq2
  refine W.eq (g2 := F0 m 623 ls [.long x, .long x]) rfl ?_
  refine W.lcmp hx hb dL_law_623 ?_
  refine lv_if_eq (tgt := 754) hx hb dL_law_624 (by decide) (fun _ => ?_) (fun q => absurd ((lg_cmp_eq _ _).mpr rfl) q)
  refine W.widen (k := 46 + 900 * (k + 1)) (n := 1964 + 3600 * (k + 1)) (by omega) (by omega) ?_
  refine kn st1 H2 locs2 (WD_mk hgt hmo hz2 hfr2 (fun q hq hl1 => ?_) hlo hlH hlo' hi1) hS2
  rcases hq with hq | hq
  · exact hdj q hq
  · exact Classical.byContradiction (fun z => absurd (hP'.lt z) (by omega))
set_option maxHeartbeats 4000000 in
set_option maxRecDepth 100000 in
theorem la_find {p : Program} {l : Launch} {e : Env} {s : State} {m : MethodId} {below : List Frame} {meth : Method} {c : Code} {G : gG} {b L g h k : Nat} {xs : Nat → Int32} {st : GS} {H : Heap} {locs : List Loc} {ls : Array Slot} {nm : String} (hC : gC G p m c cL_law 4 s #[Value.ref b] RL meth ret nm) (hX : va_X b L xs s s.heap) (hbl : b < s.heap.size) (hS : va_S (fun q : Nat => s.heap.size ≤ q) s.heap H locs) (hW : WD G s.heap.size g h st H) (hk : 5 * k + 5 ≤ L) (hL : L ≤ 2560) (hl : lv_has ls 4 [(0, .ref b), (1, .ref g), (2, .ref h), (3, .int (nI (5 * k)))]) (kn : ∀ (st1 : GS) (H1 : Heap) (locs1 : List Loc), WD G s.heap.size g h st1 H1 → va_S (fun q : Nat => s.heap.size ≤ q) s.heap H1 locs1 → W p l e room_1 s m #[Value.ref b] below meth c H1 locs1 (46 + 900 * (k + 1)) (1964 + 3600 * (k + 1)) (lw_Z below #[Value.ref b] s) (F0 m 754 ls [])) : W p l e room_1 s m #[Value.ref b] below meth c H locs (46 + 900 * k) (1964 + 3600 * k) (lw_Z below #[Value.ref b] s) (F0 m 629 ls []) := by
  obtain ⟨T, I, J, Q, O, r, d, ck, cr, cd, Sr, Sd, T', I', J', Q', O', hP, hg, hck, hst, hP', hm, hs0, hdj, hlo, hlo', hinv⟩ := hW
  have hx := hC.1.1
  have hb := hC.1.2.1
  have hbA : ¬ (fun q : Nat => s.heap.size ≤ q) b := Nat.not_le.mpr hbl
  have hdj2 : ∀ q, (T' q).1 ≠ 0 → (T q).1 = 0 := fun q hq => Classical.byContradiction (fun z => hq (hdj q z))
  refine lv_aload_n hx hb dL_law_629 rfl (lv_at hl 1 rfl) ?_
  refine g_cc (g_rV (As := []) hC hP (c_X4_find l hP  hg hck) hg.1 rfl ⟨q2_183, q2_180, q2_181, q2_182, q1_1⟩ dd_X4_find ⟨Nat.le_of_ble_eq_true rfl, Nat.le_of_ble_eq_true rfl, rfl, rfl⟩ hl.1 rfl (Nat.le_of_ble_eq_true rfl) dL_law_630 ⟨by show _ ≤ 653078; omega, by show _ ≤ 7143014; omega⟩) hS (fun q z => z.elim (hlo q) (fun z => Nat.le_trans hS.1 z)) (fun r1 H1 locs1 hq hS1 hz hfr => ?_)
  rw [hst] at hq
  obtain ⟨x, st1, hi1, hf⟩ : fnI (fun K => rFind st K ) := fn_find hinv
  obtain ⟨rfl, hgt⟩ := hf _ hq
  have hP1 := gP_frame hP' hz hfr hdj2
  have hlH := hS.1
  replace hS := hS1
  refine W.eq (g2 := F0 m 633 ls [.int x]) rfl ?_
  refine lv_aload_n hx hb dL_law_633 rfl (lv_at hl 2 rfl) ?_
  refine g_cc (g_rV (As := []) hC hP1 (c_X5_find l hP1 (h := h) (st := st)  hm hs0 hinv.2.2.1 hinv.2.2.2.1 hinv.2.2.2.2.1 hinv.2.2.2.2.2.1) hm.1 rfl ⟨q3_238, q3_235, q3_236, q3_237, q1_6⟩ dd_X5_find ⟨Nat.le_of_ble_eq_true rfl, Nat.le_of_ble_eq_true rfl, rfl, rfl⟩ hl.1 rfl (Nat.le_of_ble_eq_true rfl) dL_law_634 ⟨by show _ ≤ 653078; omega, by show _ ≤ 7143014; omega⟩) hS (fun q z => z.elim (hlo' q) (fun z => Nat.le_trans hS.1 z)) (fun r2 H2 locs2 hq2 hS2 hz2 hfr2 => ?_)
  obtain ⟨rfl, hmo⟩ := hf _ hq2
  refine W.eq (g2 := F0 m 637 ls [.int x, .int x]) rfl ?_
  refine lv_icmp_eq (tgt := 754) hx hb dL_law_637 (by decide) (fun _ => ?_) (fun q => absurd rfl q)
  refine W.widen (k := 46 + 900 * (k + 1)) (n := 1964 + 3600 * (k + 1)) (by omega) (by omega) ?_
  refine kn st1 H2 locs2 (WD_mk hgt hmo hz2 hfr2 (fun q hq hl1 => ?_) hlo hlH hlo' hi1) hS2
  rcases hq with hq | hq
  · exact hdj q hq
  · exact Classical.byContradiction (fun z => absurd (hP'.lt z) (by omega))
set_option maxHeartbeats 4000000 in
set_option maxRecDepth 100000 in
theorem la_turn {p : Program} {l : Launch} {e : Env} {s : State} {m : MethodId} {below : List Frame} {meth : Method} {c : Code} {G : gG} {b L g h k : Nat} {xs : Nat → Int32} {st : GS} {H : Heap} {locs : List Loc} {ls : Array Slot} {nm : String} (hC : gC G p m c cL_law 4 s #[Value.ref b] RL meth ret nm) (hX : va_X b L xs s s.heap) (hbl : b < s.heap.size) (hS : va_S (fun q : Nat => s.heap.size ≤ q) s.heap H locs) (hW : WD G s.heap.size g h st H) (hk : 5 * k + 5 ≤ L) (hL : L ≤ 2560) (hl : lv_has ls 4 [(0, .ref b), (1, .ref g), (2, .ref h), (3, .int (nI (5 * k)))]) (kn : ∀ (st1 : GS) (H1 : Heap) (locs1 : List Loc), WD G s.heap.size g h st1 H1 → va_S (fun q : Nat => s.heap.size ≤ q) s.heap H1 locs1 → W p l e room_1 s m #[Value.ref b] below meth c H1 locs1 (46 + 900 * (k + 1)) (1964 + 3600 * (k + 1)) (lw_Z below #[Value.ref b] s) (F0 m 754 ls [])) : W p l e room_1 s m #[Value.ref b] below meth c H locs (46 + 900 * k) (1964 + 3600 * k) (lw_Z below #[Value.ref b] s) (F0 m 642 ls []) := by
  obtain ⟨T, I, J, Q, O, r, d, ck, cr, cd, Sr, Sd, T', I', J', Q', O', hP, hg, hck, hst, hP', hm, hs0, hdj, hlo, hlo', hinv⟩ := hW
  have hx := hC.1.1
  have hb := hC.1.2.1
  have hbA : ¬ (fun q : Nat => s.heap.size ≤ q) b := Nat.not_le.mpr hbl
  have hdj2 : ∀ q, (T' q).1 ≠ 0 → (T q).1 = 0 := fun q hq => Classical.byContradiction (fun z => hq (hdj q z))
  refine lv_aload_n hx hb dL_law_642 rfl (lv_at hl 1 rfl) ?_
  refine g_cc (g_rV (As := []) hC hP (c_X4_turn l hP  hg hck) hg.1 rfl ⟨q2_192, q2_189, q2_190, q2_191, q1_1⟩ dd_X4_turn ⟨Nat.le_of_ble_eq_true rfl, Nat.le_of_ble_eq_true rfl, rfl, rfl⟩ hl.1 rfl (Nat.le_of_ble_eq_true rfl) dL_law_643 ⟨by show _ ≤ 653078; omega, by show _ ≤ 7143014; omega⟩) hS (fun q z => z.elim (hlo q) (fun z => Nat.le_trans hS.1 z)) (fun r1 H1 locs1 hq hS1 hz hfr => ?_)
  rw [hst] at hq
  obtain ⟨x, st1, hi1, hf⟩ : fnI (fun K => rTurn st K ) := fn_turn hinv
  obtain ⟨rfl, hgt⟩ := hf _ hq
  have hP1 := gP_frame hP' hz hfr hdj2
  have hlH := hS.1
  replace hS := hS1
  refine W.eq (g2 := F0 m 646 ls [.int x]) rfl ?_
  refine lv_aload_n hx hb dL_law_646 rfl (lv_at hl 2 rfl) ?_
  refine g_cc (g_rV (As := []) hC hP1 (c_X5_turn l hP1 (h := h) (st := st)  hm hs0) hm.1 rfl ⟨q4_6, q4_3, q4_4, q4_5, q1_6⟩ dd_X5_turn ⟨Nat.le_of_ble_eq_true rfl, Nat.le_of_ble_eq_true rfl, rfl, rfl⟩ hl.1 rfl (Nat.le_of_ble_eq_true rfl) dL_law_647 ⟨by show _ ≤ 653078; omega, by show _ ≤ 7143014; omega⟩) hS (fun q z => z.elim (hlo' q) (fun z => Nat.le_trans hS.1 z)) (fun r2 H2 locs2 hq2 hS2 hz2 hfr2 => ?_)
  obtain ⟨rfl, hmo⟩ := hf _ hq2
  refine W.eq (g2 := F0 m 650 ls [.int x, .int x]) rfl ?_
  refine lv_icmp_eq (tgt := 754) hx hb dL_law_650 (by decide) (fun _ => ?_) (fun q => absurd rfl q)
  refine W.widen (k := 46 + 900 * (k + 1)) (n := 1964 + 3600 * (k + 1)) (by omega) (by omega) ?_
  refine kn st1 H2 locs2 (WD_mk hgt hmo hz2 hfr2 (fun q hq hl1 => ?_) hlo hlH hlo' hi1) hS2
  rcases hq with hq | hq
  · exact hdj q hq
  · exact Classical.byContradiction (fun z => absurd (hP'.lt z) (by omega))
set_option maxHeartbeats 4000000 in
set_option maxRecDepth 100000 in
theorem la_raise {p : Program} {l : Launch} {e : Env} {s : State} {m : MethodId} {below : List Frame} {meth : Method} {c : Code} {G : gG} {b L g h k : Nat} {xs : Nat → Int32} {st : GS} {H : Heap} {locs : List Loc} {ls : Array Slot} {nm : String} (hC : gC G p m c cL_law 4 s #[Value.ref b] RL meth ret nm) (hX : va_X b L xs s s.heap) (hbl : b < s.heap.size) (hS : va_S (fun q : Nat => s.heap.size ≤ q) s.heap H locs) (hW : WD G s.heap.size g h st H) (hk : 5 * k + 5 ≤ L) (hL : L ≤ 2560) (hl : lv_has ls 4 [(0, .ref b), (1, .ref g), (2, .ref h), (3, .int (nI (5 * k)))]) (kn : ∀ (st1 : GS) (H1 : Heap) (locs1 : List Loc), WD G s.heap.size g h st1 H1 → va_S (fun q : Nat => s.heap.size ≤ q) s.heap H1 locs1 → W p l e room_1 s m #[Value.ref b] below meth c H1 locs1 (46 + 900 * (k + 1)) (1964 + 3600 * (k + 1)) (lw_Z below #[Value.ref b] s) (F0 m 754 ls [])) : W p l e room_1 s m #[Value.ref b] below meth c H locs (46 + 900 * k) (1964 + 3600 * k) (lw_Z below #[Value.ref b] s) (F0 m 655 ls []) := by
  obtain ⟨T, I, J, Q, O, r, d, ck, cr, cd, Sr, Sd, T', I', J', Q', O', hP, hg, hck, hst, hP', hm, hs0, hdj, hlo, hlo', hinv⟩ := hW
  have hx := hC.1.1
  have hb := hC.1.2.1
  have hbA : ¬ (fun q : Nat => s.heap.size ≤ q) b := Nat.not_le.mpr hbl
  have hdj2 : ∀ q, (T' q).1 ≠ 0 → (T q).1 = 0 := fun q hq => Classical.byContradiction (fun z => hq (hdj q z))
  refine lv_aload_n hx hb dL_law_655 rfl (lv_at hl 1 rfl) ?_
  refine lv_aload_n hx hb dL_law_656 rfl (lv_at hl 0 rfl) ?_
  refine lv_iload_n hx hb dL_law_657 rfl (lv_at hl 3 rfl) ?_
  refine lv_iconst (v := nI 1) hx hb dL_law_658 (by decide) ?_
  refine lv_iadd hx hb dL_law_659 ?_
  refine g_topi (y := nI (5 * k + 1)) (nI_add _ _) ?_
  refine va_sld hx hb hX hbl hbA hS (vp_in_nI (by omega) (by omega)) dL_law_660 ?_
  refine g_topi (y := xs (5 * k + 1)) (congrArg xs (nI_clamp (by omega))) ?_
  refine lv_aload_n hx hb dL_law_661 rfl (lv_at hl 0 rfl) ?_
  refine lv_iload_n hx hb dL_law_662 rfl (lv_at hl 3 rfl) ?_
  refine lv_iconst (v := nI 2) hx hb dL_law_663 (by decide) ?_
  refine lv_iadd hx hb dL_law_664 ?_
  refine g_topi (y := nI (5 * k + 2)) (nI_add _ _) ?_
  refine va_sld hx hb hX hbl hbA hS (vp_in_nI (by omega) (by omega)) dL_law_665 ?_
  refine g_topi (y := xs (5 * k + 2)) (congrArg xs (nI_clamp (by omega))) ?_
  refine lv_aload_n hx hb dL_law_666 rfl (lv_at hl 0 rfl) ?_
  refine lv_iload_n hx hb dL_law_667 rfl (lv_at hl 3 rfl) ?_
  refine lv_iconst (v := nI 3) hx hb dL_law_668 (by decide) ?_
  refine lv_iadd hx hb dL_law_669 ?_
  refine g_topi (y := nI (5 * k + 3)) (nI_add _ _) ?_
  refine va_sld hx hb hX hbl hbA hS (vp_in_nI (by omega) (by omega)) dL_law_670 ?_
  refine g_topi (y := xs (5 * k + 3)) (congrArg xs (nI_clamp (by omega))) ?_
  refine g_cc (g_rV (As := [.int (xs (5 * k + 1)), .int (xs (5 * k + 2)), .int (xs (5 * k + 3))]) hC hP (c_X4_raise l hP (q := xs (5 * k + 1)) (k := xs (5 * k + 2)) (v := xs (5 * k + 3)) hg hck) hg.1 rfl ⟨q2_196, q2_193, q2_194, q2_195, q1_1⟩ dd_X4_raise ⟨Nat.le_of_ble_eq_true rfl, Nat.le_of_ble_eq_true rfl, rfl, rfl⟩ hl.1 rfl (Nat.le_of_ble_eq_true rfl) dL_law_671 ⟨by show _ ≤ 653078; omega, by show _ ≤ 7143014; omega⟩) hS (fun q z => z.elim (hlo q) (fun z => Nat.le_trans hS.1 z)) (fun r1 H1 locs1 hq hS1 hz hfr => ?_)
  rw [hst] at hq
  obtain ⟨x, st1, hi1, hf⟩ : fnI (fun K => rRaise st K (xs (5 * k + 1)) (xs (5 * k + 2)) (xs (5 * k + 3))) := fn_raise hinv
  obtain ⟨rfl, hgt⟩ := hf _ hq
  have hP1 := gP_frame hP' hz hfr hdj2
  have hlH := hS.1
  replace hS := hS1
  refine W.eq (g2 := F0 m 674 ls [.int x]) rfl ?_
  refine lv_aload_n hx hb dL_law_674 rfl (lv_at hl 2 rfl) ?_
  refine lv_aload_n hx hb dL_law_675 rfl (lv_at hl 0 rfl) ?_
  refine lv_iload_n hx hb dL_law_676 rfl (lv_at hl 3 rfl) ?_
  refine lv_iconst (v := nI 1) hx hb dL_law_677 (by decide) ?_
  refine lv_iadd hx hb dL_law_678 ?_
  refine g_topi (y := nI (5 * k + 1)) (nI_add _ _) ?_
  refine va_sld hx hb hX hbl hbA hS (vp_in_nI (by omega) (by omega)) dL_law_679 ?_
  refine g_topi (y := xs (5 * k + 1)) (congrArg xs (nI_clamp (by omega))) ?_
  refine lv_aload_n hx hb dL_law_680 rfl (lv_at hl 0 rfl) ?_
  refine lv_iload_n hx hb dL_law_681 rfl (lv_at hl 3 rfl) ?_
  refine lv_iconst (v := nI 2) hx hb dL_law_682 (by decide) ?_
  refine lv_iadd hx hb dL_law_683 ?_
  refine g_topi (y := nI (5 * k + 2)) (nI_add _ _) ?_
  refine va_sld hx hb hX hbl hbA hS (vp_in_nI (by omega) (by omega)) dL_law_684 ?_
  refine g_topi (y := xs (5 * k + 2)) (congrArg xs (nI_clamp (by omega))) ?_
  refine lv_aload_n hx hb dL_law_685 rfl (lv_at hl 0 rfl) ?_
  refine lv_iload_n hx hb dL_law_686 rfl (lv_at hl 3 rfl) ?_
  refine lv_iconst (v := nI 3) hx hb dL_law_687 (by decide) ?_
  refine lv_iadd hx hb dL_law_688 ?_
  refine g_topi (y := nI (5 * k + 3)) (nI_add _ _) ?_
  refine va_sld hx hb hX hbl hbA hS (vp_in_nI (by omega) (by omega)) dL_law_689 ?_
  refine g_topi (y := xs (5 * k + 3)) (congrArg xs (nI_clamp (by omega))) ?_
  refine g_cc (g_rV (As := [.int (xs (5 * k + 1)), .int (xs (5 * k + 2)), .int (xs (5 * k + 3))]) hC hP1 (c_X5_raise l hP1 (h := h) (st := st) (q := xs (5 * k + 1)) (k := xs (5 * k + 2)) (v := xs (5 * k + 3)) hm hs0) hm.1 rfl ⟨q4_10, q4_7, q4_8, q4_9, q1_6⟩ dd_X5_raise ⟨Nat.le_of_ble_eq_true rfl, Nat.le_of_ble_eq_true rfl, rfl, rfl⟩ hl.1 rfl (Nat.le_of_ble_eq_true rfl) dL_law_690 ⟨by show _ ≤ 653078; omega, by show _ ≤ 7143014; omega⟩) hS (fun q z => z.elim (hlo' q) (fun z => Nat.le_trans hS.1 z)) (fun r2 H2 locs2 hq2 hS2 hz2 hfr2 => ?_)
  obtain ⟨rfl, hmo⟩ := hf _ hq2
  refine W.eq (g2 := F0 m 693 ls [.int x, .int x]) rfl ?_
  refine lv_icmp_eq (tgt := 754) hx hb dL_law_693 (by decide) (fun _ => ?_) (fun q => absurd rfl q)
  refine W.widen (k := 46 + 900 * (k + 1)) (n := 1964 + 3600 * (k + 1)) (by omega) (by omega) ?_
  refine kn st1 H2 locs2 (WD_mk hgt hmo hz2 hfr2 (fun q hq hl1 => ?_) hlo hlH hlo' hi1) hS2
  rcases hq with hq | hq
  · exact hdj q hq
  · exact Classical.byContradiction (fun z => absurd (hP'.lt z) (by omega))
set_option maxHeartbeats 4000000 in
set_option maxRecDepth 100000 in
theorem la_scale {p : Program} {l : Launch} {e : Env} {s : State} {m : MethodId} {below : List Frame} {meth : Method} {c : Code} {G : gG} {b L g h k : Nat} {xs : Nat → Int32} {st : GS} {H : Heap} {locs : List Loc} {ls : Array Slot} {nm : String} (hC : gC G p m c cL_law 4 s #[Value.ref b] RL meth ret nm) (hX : va_X b L xs s s.heap) (hbl : b < s.heap.size) (hS : va_S (fun q : Nat => s.heap.size ≤ q) s.heap H locs) (hW : WD G s.heap.size g h st H) (hk : 5 * k + 5 ≤ L) (hL : L ≤ 2560) (hl : lv_has ls 4 [(0, .ref b), (1, .ref g), (2, .ref h), (3, .int (nI (5 * k)))]) (kn : ∀ (st1 : GS) (H1 : Heap) (locs1 : List Loc), WD G s.heap.size g h st1 H1 → va_S (fun q : Nat => s.heap.size ≤ q) s.heap H1 locs1 → W p l e room_1 s m #[Value.ref b] below meth c H1 locs1 (46 + 900 * (k + 1)) (1964 + 3600 * (k + 1)) (lw_Z below #[Value.ref b] s) (F0 m 754 ls [])) : W p l e room_1 s m #[Value.ref b] below meth c H locs (46 + 900 * k) (1964 + 3600 * k) (lw_Z below #[Value.ref b] s) (F0 m 698 ls []) := by
  obtain ⟨T, I, J, Q, O, r, d, ck, cr, cd, Sr, Sd, T', I', J', Q', O', hP, hg, hck, hst, hP', hm, hs0, hdj, hlo, hlo', hinv⟩ := hW
  have hx := hC.1.1
  have hb := hC.1.2.1
  have hbA : ¬ (fun q : Nat => s.heap.size ≤ q) b := Nat.not_le.mpr hbl
  have hdj2 : ∀ q, (T' q).1 ≠ 0 → (T q).1 = 0 := fun q hq => Classical.byContradiction (fun z => hq (hdj q z))
  refine lv_aload_n hx hb dL_law_698 rfl (lv_at hl 1 rfl) ?_
  refine lv_aload_n hx hb dL_law_699 rfl (lv_at hl 0 rfl) ?_
  refine lv_iload_n hx hb dL_law_700 rfl (lv_at hl 3 rfl) ?_
  refine lv_iconst (v := nI 1) hx hb dL_law_701 (by decide) ?_
  refine lv_iadd hx hb dL_law_702 ?_
  refine g_topi (y := nI (5 * k + 1)) (nI_add _ _) ?_
  refine va_sld hx hb hX hbl hbA hS (vp_in_nI (by omega) (by omega)) dL_law_703 ?_
  refine g_topi (y := xs (5 * k + 1)) (congrArg xs (nI_clamp (by omega))) ?_
  refine lv_aload_n hx hb dL_law_704 rfl (lv_at hl 0 rfl) ?_
  refine lv_iload_n hx hb dL_law_705 rfl (lv_at hl 3 rfl) ?_
  refine lv_iconst (v := nI 2) hx hb dL_law_706 (by decide) ?_
  refine lv_iadd hx hb dL_law_707 ?_
  refine g_topi (y := nI (5 * k + 2)) (nI_add _ _) ?_
  refine va_sld hx hb hX hbl hbA hS (vp_in_nI (by omega) (by omega)) dL_law_708 ?_
  refine g_topi (y := xs (5 * k + 2)) (congrArg xs (nI_clamp (by omega))) ?_
  refine g_cc (g_rV (As := [.int (xs (5 * k + 1)), .int (xs (5 * k + 2))]) hC hP (c_X4_scale l hP (q := xs (5 * k + 1)) (v := xs (5 * k + 2)) hg hck) hg.1 rfl ⟨q2_212, q2_209, q2_210, q2_211, q1_1⟩ dd_X4_scale ⟨Nat.le_of_ble_eq_true rfl, Nat.le_of_ble_eq_true rfl, rfl, rfl⟩ hl.1 rfl (Nat.le_of_ble_eq_true rfl) dL_law_709 ⟨by show _ ≤ 653078; omega, by show _ ≤ 7143014; omega⟩) hS (fun q z => z.elim (hlo q) (fun z => Nat.le_trans hS.1 z)) (fun r1 H1 locs1 hq hS1 hz hfr => ?_)
  rw [hst] at hq
  obtain ⟨x, st1, hi1, hf⟩ : fnI (fun K => rScale st K (xs (5 * k + 1)) (xs (5 * k + 2))) := fn_scale hinv
  obtain ⟨rfl, hgt⟩ := hf _ hq
  have hP1 := gP_frame hP' hz hfr hdj2
  have hlH := hS.1
  replace hS := hS1
  refine W.eq (g2 := F0 m 712 ls [.int x]) rfl ?_
  refine lv_aload_n hx hb dL_law_712 rfl (lv_at hl 2 rfl) ?_
  refine lv_aload_n hx hb dL_law_713 rfl (lv_at hl 0 rfl) ?_
  refine lv_iload_n hx hb dL_law_714 rfl (lv_at hl 3 rfl) ?_
  refine lv_iconst (v := nI 1) hx hb dL_law_715 (by decide) ?_
  refine lv_iadd hx hb dL_law_716 ?_
  refine g_topi (y := nI (5 * k + 1)) (nI_add _ _) ?_
  refine va_sld hx hb hX hbl hbA hS (vp_in_nI (by omega) (by omega)) dL_law_717 ?_
  refine g_topi (y := xs (5 * k + 1)) (congrArg xs (nI_clamp (by omega))) ?_
  refine lv_aload_n hx hb dL_law_718 rfl (lv_at hl 0 rfl) ?_
  refine lv_iload_n hx hb dL_law_719 rfl (lv_at hl 3 rfl) ?_
  refine lv_iconst (v := nI 2) hx hb dL_law_720 (by decide) ?_
  refine lv_iadd hx hb dL_law_721 ?_
  refine g_topi (y := nI (5 * k + 2)) (nI_add _ _) ?_
  refine va_sld hx hb hX hbl hbA hS (vp_in_nI (by omega) (by omega)) dL_law_722 ?_
  refine g_topi (y := xs (5 * k + 2)) (congrArg xs (nI_clamp (by omega))) ?_
  refine g_cc (g_rV (As := [.int (xs (5 * k + 1)), .int (xs (5 * k + 2))]) hC hP1 (c_X5_scale l hP1 (h := h) (st := st) (q := xs (5 * k + 1)) (v := xs (5 * k + 2)) hm hs0 hinv.2.2.1 hinv.2.2.2.1) hm.1 rfl ⟨q4_20, q4_17, q4_18, q4_19, q1_6⟩ dd_X5_scale ⟨Nat.le_of_ble_eq_true rfl, Nat.le_of_ble_eq_true rfl, rfl, rfl⟩ hl.1 rfl (Nat.le_of_ble_eq_true rfl) dL_law_723 ⟨by show _ ≤ 653078; omega, by show _ ≤ 7143014; omega⟩) hS (fun q z => z.elim (hlo' q) (fun z => Nat.le_trans hS.1 z)) (fun r2 H2 locs2 hq2 hS2 hz2 hfr2 => ?_)
  obtain ⟨rfl, hmo⟩ := hf _ hq2
  refine W.eq (g2 := F0 m 726 ls [.int x, .int x]) rfl ?_
  refine lv_icmp_eq (tgt := 754) hx hb dL_law_726 (by decide) (fun _ => ?_) (fun q => absurd rfl q)
  refine W.widen (k := 46 + 900 * (k + 1)) (n := 1964 + 3600 * (k + 1)) (by omega) (by omega) ?_
  refine kn st1 H2 locs2 (WD_mk hgt hmo hz2 hfr2 (fun q hq hl1 => ?_) hlo hlH hlo' hi1) hS2
  rcases hq with hq | hq
  · exact hdj q hq
  · exact Classical.byContradiction (fun z => absurd (hP'.lt z) (by omega))
set_option maxHeartbeats 4000000 in
set_option maxRecDepth 100000 in
theorem la_status {p : Program} {l : Launch} {e : Env} {s : State} {m : MethodId} {below : List Frame} {meth : Method} {c : Code} {G : gG} {b L g h k : Nat} {xs : Nat → Int32} {st : GS} {H : Heap} {locs : List Loc} {ls : Array Slot} {nm : String} (hC : gC G p m c cL_law 4 s #[Value.ref b] RL meth ret nm) (hX : va_X b L xs s s.heap) (hbl : b < s.heap.size) (hS : va_S (fun q : Nat => s.heap.size ≤ q) s.heap H locs) (hW : WD G s.heap.size g h st H) (hk : 5 * k + 5 ≤ L) (hL : L ≤ 2560) (hl : lv_has ls 4 [(0, .ref b), (1, .ref g), (2, .ref h), (3, .int (nI (5 * k)))]) (kn : ∀ (st1 : GS) (H1 : Heap) (locs1 : List Loc), WD G s.heap.size g h st1 H1 → va_S (fun q : Nat => s.heap.size ≤ q) s.heap H1 locs1 → W p l e room_1 s m #[Value.ref b] below meth c H1 locs1 (46 + 900 * (k + 1)) (1964 + 3600 * (k + 1)) (lw_Z below #[Value.ref b] s) (F0 m 754 ls [])) : W p l e room_1 s m #[Value.ref b] below meth c H locs (46 + 900 * k) (1964 + 3600 * k) (lw_Z below #[Value.ref b] s) (F0 m 731 ls []) := by
  obtain ⟨T, I, J, Q, O, r, d, ck, cr, cd, Sr, Sd, T', I', J', Q', O', hP, hg, hck, hst, hP', hm, hs0, hdj, hlo, hlo', hinv⟩ := hW
  have hx := hC.1.1
  have hb := hC.1.2.1
  have hbA : ¬ (fun q : Nat => s.heap.size ≤ q) b := Nat.not_le.mpr hbl
  have hdj2 : ∀ q, (T' q).1 ≠ 0 → (T q).1 = 0 := fun q hq => Classical.byContradiction (fun z => hq (hdj q z))
  refine lv_aload_n hx hb dL_law_731 rfl (lv_at hl 1 rfl) ?_
  refine lv_aload_n hx hb dL_law_732 rfl (lv_at hl 0 rfl) ?_
  refine lv_iload_n hx hb dL_law_733 rfl (lv_at hl 3 rfl) ?_
  refine lv_iconst (v := nI 1) hx hb dL_law_734 (by decide) ?_
  refine lv_iadd hx hb dL_law_735 ?_
  refine g_topi (y := nI (5 * k + 1)) (nI_add _ _) ?_
  refine va_sld hx hb hX hbl hbA hS (vp_in_nI (by omega) (by omega)) dL_law_736 ?_
  refine g_topi (y := xs (5 * k + 1)) (congrArg xs (nI_clamp (by omega))) ?_
  refine g_cc (g_rV (As := [.int (xs (5 * k + 1))]) hC hP (c_X4_status l hP (k := xs (5 * k + 1)) hg hck) hg.1 rfl ⟨q2_227, q2_224, q2_225, q2_226, q1_1⟩ dd_X4_status ⟨Nat.le_of_ble_eq_true rfl, Nat.le_of_ble_eq_true rfl, rfl, rfl⟩ hl.1 rfl (Nat.le_of_ble_eq_true rfl) dL_law_737 ⟨by show _ ≤ 653078; omega, by show _ ≤ 7143014; omega⟩) hS (fun q z => z.elim (hlo q) (fun z => Nat.le_trans hS.1 z)) (fun r1 H1 locs1 hq hS1 hz hfr => ?_)
  rw [hst] at hq
  obtain ⟨x, st1, hi1, hf⟩ : fnI (fun K => rStatus st K (xs (5 * k + 1))) := fn_status hinv
  obtain ⟨rfl, hgt⟩ := hf _ hq
  have hP1 := gP_frame hP' hz hfr hdj2
  have hlH := hS.1
  replace hS := hS1
  refine W.eq (g2 := F0 m 740 ls [.int x]) rfl ?_
  refine lv_aload_n hx hb dL_law_740 rfl (lv_at hl 2 rfl) ?_
  refine lv_aload_n hx hb dL_law_741 rfl (lv_at hl 0 rfl) ?_
  refine lv_iload_n hx hb dL_law_742 rfl (lv_at hl 3 rfl) ?_
  refine lv_iconst (v := nI 1) hx hb dL_law_743 (by decide) ?_
  refine lv_iadd hx hb dL_law_744 ?_
  refine g_topi (y := nI (5 * k + 1)) (nI_add _ _) ?_
  refine va_sld hx hb hX hbl hbA hS (vp_in_nI (by omega) (by omega)) dL_law_745 ?_
  refine g_topi (y := xs (5 * k + 1)) (congrArg xs (nI_clamp (by omega))) ?_
  refine g_cc (g_rV (As := [.int (xs (5 * k + 1))]) hC hP1 (c_X5_status l hP1 (h := h) (st := st) (k := xs (5 * k + 1)) hm hs0 hinv.2.2.1 hinv.2.2.2.1 hinv.2.2.2.2.2.2) hm.1 rfl ⟨q4_24, q4_21, q4_22, q4_23, q1_6⟩ dd_X5_status ⟨Nat.le_of_ble_eq_true rfl, Nat.le_of_ble_eq_true rfl, rfl, rfl⟩ hl.1 rfl (Nat.le_of_ble_eq_true rfl) dL_law_746 ⟨by show _ ≤ 653078; omega, by show _ ≤ 7143014; omega⟩) hS (fun q z => z.elim (hlo' q) (fun z => Nat.le_trans hS.1 z)) (fun r2 H2 locs2 hq2 hS2 hz2 hfr2 => ?_)
  obtain ⟨rfl, hmo⟩ := hf _ hq2
  refine W.eq (g2 := F0 m 749 ls [.int x, .int x]) rfl ?_
  refine lv_icmp_eq (tgt := 754) hx hb dL_law_749 (by decide) (fun _ => ?_) (fun q => absurd rfl q)
  refine W.widen (k := 46 + 900 * (k + 1)) (n := 1964 + 3600 * (k + 1)) (by omega) (by omega) ?_
  refine kn st1 H2 locs2 (WD_mk hgt hmo hz2 hfr2 (fun q hq hl1 => ?_) hlo hlH hlo' hi1) hS2
  rcases hq with hq | hq
  · exact hdj q hq
  · exact Classical.byContradiction (fun z => absurd (hP'.lt z) (by omega))
