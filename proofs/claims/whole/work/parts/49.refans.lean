/-! ===== the reference: answers ===== -/
def anM (f : Nat → Int64) : Nat → Int64 × Nat
  | 0 => (0, 0)
  | k + 1 => ansL f k
def ansM (P : Nat → Int32) (X : Nat → Int64) (m n : Nat) : Nat := (anM (fun o => wsum P X o n) m).2
theorem anM_lt (f : Nat → Int64) : ∀ k, k ≤ 4 → (anM f k).2 < 16
  | 0, _ => by show 0 < 16; decide
  | k + 1, h => ansL_lt16 f (by omega)
theorem ansM_lt {P : Nat → Int32} {X : Nat → Int64} {m n : Nat} (h : m ≤ 4) : ansM P X m n < 16 := anM_lt _ m h
theorem an_z {f : Nat → Int64} {z : Nat} {s : Int64} (h : z = 0) (hs : s = f z) : anM f (z + 1) = (s, 2 ^ z) := by
  subst h
  rw [hs]
  rfl
theorem an_lt {f : Nat → Int64} {z b : Nat} {s mo : Int64} (h0 : ¬ z = 0) (hs : s = f z) (h1 : mo = (anM f z).1) (h2 : b = (anM f z).2) (hc : s < mo) : anM f (z + 1) = (mo, b) := by
  obtain ⟨k, rfl⟩ : ∃ k, z = k + 1 := ⟨z - 1, by omega⟩
  show ansS (f (k + 1)) (ansL f k).1 (ansL f k).2 (k + 1) = _
  have h1 : mo = (ansL f k).1 := h1
  have h2 : b = (ansL f k).2 := h2
  rw [← h1, ← h2, ← hs]
  unfold ansS
  rw [if_neg (fun q => by rw [Int64.lt_iff_toInt_lt] at *; omega), if_neg (fun q => by rw [Int64.lt_iff_toInt_lt, q] at hc; omega)]
theorem an_gt {f : Nat → Int64} {z b : Nat} {s mo : Int64} (h0 : ¬ z = 0) (hs : s = f z) (h1 : mo = (anM f z).1) (h2 : b = (anM f z).2) (hc : mo < s) : anM f (z + 1) = (s, 2 ^ z) := by
  obtain ⟨k, rfl⟩ : ∃ k, z = k + 1 := ⟨z - 1, by omega⟩
  show ansS (f (k + 1)) (ansL f k).1 (ansL f k).2 (k + 1) = _
  have h1 : mo = (ansL f k).1 := h1
  rw [← h1, ← hs]
  unfold ansS
  rw [if_pos hc]
theorem an_eq {f : Nat → Int64} {z b : Nat} {s mo : Int64} (h0 : ¬ z = 0) (hs : s = f z) (h1 : mo = (anM f z).1) (h2 : b = (anM f z).2) (hc : mo ≤ s) (hd : s ≤ mo) : anM f (z + 1) = (mo, b ||| 2 ^ z) := by
  obtain ⟨k, rfl⟩ : ∃ k, z = k + 1 := ⟨z - 1, by omega⟩
  show ansS (f (k + 1)) (ansL f k).1 (ansL f k).2 (k + 1) = _
  have h1 : mo = (ansL f k).1 := h1
  have h2 : b = (ansL f k).2 := h2
  have e : s = mo := by
    apply Int64.toInt_inj.mp
    rw [Int64.le_iff_toInt_le] at hc hd
    omega
  rw [← h1, ← h2, ← hs, e]
  unfold ansS
  rw [if_neg (fun q => by rw [Int64.lt_iff_toInt_lt] at q; omega), if_pos rfl]
theorem wsum_z {P : Nat → Int32} {X : Nat → Int64} {o n : Nat} : ∀ d, (∀ j, n ≤ j → j < n + d → X j = 0) → wsum P X o (n + d) = wsum P X o n
  | 0, _ => rfl
  | d + 1, h => by
    show wsum P X o (n + d) + X (n + d) * _ = _
    rw [wsum_z d (fun j h1 h2 => h j h1 (by omega)), h (n + d) (by omega) (by omega), Int64.zero_mul, Int64.add_zero]
theorem ansM_B {P : Nat → Int32} {X : Nat → Int64} {m n : Nat} (hm : 1 ≤ m) (hn : n ≤ 4) (h : ∀ j, n ≤ j → j < 4 → X j = 0) : ansM P X m n = ansB P X m := by
  obtain ⟨k, rfl⟩ : ∃ k, m = k + 1 := ⟨m - 1, by omega⟩
  unfold ansM ansB
  show (ansL _ k).2 = (ansL _ (k + 1 - 1)).2
  rw [show (fun o => wsum P X o n) = (fun o => wsum P X o 4) from funext fun o => ?_]
  · rfl
  · have := wsum_z (P := P) (X := X) (o := o) (n := n) (4 - n) (fun j h1 h2 => h j h1 (by omega))
    rw [show n + (4 - n) = 4 from by omega] at this
    exact this.symm
set_option maxHeartbeats 4000000 in
set_option maxRecDepth 100000 in
theorem c_X5_answersTo_0 (l : Launch) {G : gG} {T : gTy} {I : gI} {J : gJ} {Q : gR} {O : gO} {H : Heap} (hP : gP G T I J Q O H) {h : Nat} {st : GS} {a : Nat} (hm : isMo T O h) (hs0 : moS I h st) (hTa : T a = (3, 4)) : Met l yX5_answersTo (gw yX5_answersTo cX5_answersTo 11 (some (.int))) ({ frames := 1, cells := 0, slots := 0, locals := 23 } : Room) (gPc G H [.ref h, .int (nI 0), .ref a, .int (nI 0)]) (gQp (some (.int (nI (ansM (gsP0 st) (J a) (gsm st) (gsn st)))))) 0 0 (fun _ => False) := by
  refine g_met [(0, .ref h), (1, .int (nI 0)), (2, .ref a), (3, .int (nI 0))] (by decide) rfl (by exact Nat.le_of_ble_eq_true rfl) ?_
  intro p e s m below meth c hC hs ls hl
  have hx := hC.1.1
  have hb := hC.1.2.1
  have hms := hs0.1
  have hns := hs0.2.1
  refine lv_iconst (v := nI 0) hx hb dX5_answersTo_0 (by decide) ?_
  refine lv_istore (lv' := [(4, .int (nI 0)), (0, .ref h), (1, .int (nI 0)), (2, .ref a), (3, .int (nI 0))]) hx hb dX5_answersTo_1 hl (by decide) rfl (fun ls hl => ?_)
  refine lv_lconst (v := 0) hx hb dX5_answersTo_3 (by decide) ?_
  refine lv_lstore (lv' := [(5, .long (0 : Int64)), (4, .int (nI 0)), (0, .ref h), (1, .int (nI 0)), (2, .ref a), (3, .int (nI 0))]) hx hb dX5_answersTo_4 hl (by decide) rfl (fun ls hl => ?_)
  refine lv_iconst (v := nI 0) hx hb dX5_answersTo_6 (by decide) ?_
  refine lv_istore (lv' := [(7, .int (nI 0)), (5, .long (0 : Int64)), (4, .int (nI 0)), (0, .ref h), (1, .int (nI 0)), (2, .ref a), (3, .int (nI 0))]) hx hb dX5_answersTo_7 hl (by decide) rfl (fun ls hl => ?_)
  have L9 : ∀ (n9 : Nat) (z : Nat) (bi : Nat) (mo : Int64), 5 ≤ n9 + z → (z ≤ gsm st) → (bi = (anM (fun o => wsum (gsP0 st) (J a) o (gsn st)) z).2) → (mo = (anM (fun o => wsum (gsP0 st) (J a) o (gsn st)) z).1) → ∀ ls : Array Slot, lv_has ls 11 [(0, .ref h), (1, .int (nI 0)), (2, .ref a), (3, .int (nI 0)), (4, .int (nI bi)), (5, .long mo), (7, .int (nI z))] → W p l e ({ frames := 1, cells := 0, slots := 0, locals := 23 } : Room) s m [.ref h, .int (nI 0), .ref a, .int (nI 0)].toArray below meth c H [] 0 0 (MQ below (gQp (some (.int (nI (ansM (gsP0 st) (J a) (gsm st) (gsn st)))))) [.ref h, .int (nI 0), .ref a, .int (nI 0)].toArray s 0 0 (fun _ => False)) (F0 m 9 ls []) := by
    intro n9
    induction n9 with
    | zero => intro z bi mo hn9 hz h1 h2; exact absurd hn9 (by omega)
    | succ n9 ih9 =>
      intro z bi mo hn9 hz h1 h2 ls hl
      have hb16 : bi < 16 := by rw [h1]; exact anM_lt _ z (by omega)
      refine lv_iload hx hb dX5_answersTo_9 (lv_at hl 6 rfl) ?_
      refine lv_aload_n hx hb dX5_answersTo_11 rfl (lv_at hl 0 rfl) ?_
      refine g_get hC hP hm.1 rfl inX5 0 (by decide) q3_6 hm.2.1.1 dX5_answersTo_12 ?_
      refine lv_iload_n hx hb dX5_answersTo_15 rfl (lv_at hl 1 rfl) ?_
      refine g_iald hC hP hm.2.1.2 (vp_in_nI (by omega) (by decide)) dX5_answersTo_16 ?_
      refine g_topi (y := nI (gsm st)) hs0.2.2.1 ?_
      refine lv_icmp_ge (tgt := 142) hx hb dX5_answersTo_17 (by decide) (fun c17 => ?_) (fun c17 => ?_)
      · have c17 := (nI_leI (by omega) (by omega)).mp c17
        refine lv_iload hx hb dX5_answersTo_142 (lv_at hl 4 rfl) ?_
        refine g_reti hC hs ?_ dX5_answersTo_144
        rw [h1, show z = gsm st from by omega]; rfl
      · have c17 := mt (nI_leI (by omega) (by omega)).mpr c17
        refine lv_lconst (v := 0) hx hb dX5_answersTo_20 (by decide) ?_
        refine lv_lstore (lv' := [(8, .long (0 : Int64)), (0, .ref h), (1, .int (nI 0)), (2, .ref a), (3, .int (nI 0)), (4, .int (nI bi)), (5, .long mo), (7, .int (nI z))]) hx hb dX5_answersTo_21 hl (by decide) rfl (fun ls hl => ?_)
        refine lv_iconst (v := nI 0) hx hb dX5_answersTo_23 (by decide) ?_
        refine lv_istore (lv' := [(10, .int (nI 0)), (8, .long (0 : Int64)), (0, .ref h), (1, .int (nI 0)), (2, .ref a), (3, .int (nI 0)), (4, .int (nI bi)), (5, .long mo), (7, .int (nI z))]) hx hb dX5_answersTo_24 hl (by decide) rfl (fun ls hl => ?_)
        have L26 : ∀ (n26 : Nat) (y : Nat) (sm : Int64), 5 ≤ n26 + y → (y ≤ gsn st) → (sm = wsum (gsP0 st) (J a) z y) → ∀ ls : Array Slot, lv_has ls 11 [(0, .ref h), (1, .int (nI 0)), (2, .ref a), (3, .int (nI 0)), (4, .int (nI bi)), (5, .long mo), (7, .int (nI z)), (8, .long sm), (10, .int (nI y))] → W p l e ({ frames := 1, cells := 0, slots := 0, locals := 23 } : Room) s m [.ref h, .int (nI 0), .ref a, .int (nI 0)].toArray below meth c H [] 0 0 (MQ below (gQp (some (.int (nI (ansM (gsP0 st) (J a) (gsm st) (gsn st)))))) [.ref h, .int (nI 0), .ref a, .int (nI 0)].toArray s 0 0 (fun _ => False)) (F0 m 26 ls []) := by
          intro n26
          induction n26 with
          | zero => intro y sm hn26 hy h3; exact absurd hn26 (by omega)
          | succ n26 ih26 =>
            intro y sm hn26 hy h3 ls hl
            refine lv_iload hx hb dX5_answersTo_26 (lv_at hl 8 rfl) ?_
            refine lv_aload_n hx hb dX5_answersTo_28 rfl (lv_at hl 0 rfl) ?_
            refine g_get hC hP hm.1 rfl inX5 0 (by decide) q3_6 hm.2.1.1 dX5_answersTo_29 ?_
            refine lv_iconst (v := nI 1) hx hb dX5_answersTo_32 (by decide) ?_
            refine lv_iload_n hx hb dX5_answersTo_33 rfl (lv_at hl 1 rfl) ?_
            refine lv_isub hx hb dX5_answersTo_34 ?_
            refine g_topi (y := nI 1) (by decide) ?_
            refine g_iald hC hP hm.2.1.2 (vp_in_nI (by omega) (by decide)) dX5_answersTo_35 ?_
            refine g_topi (y := nI (gsn st)) hs0.2.2.2.1 ?_
            refine lv_icmp_ge (tgt := 67) hx hb dX5_answersTo_36 (by decide) (fun c36 => ?_) (fun c36 => ?_)
            · have c36 := (nI_leI (by omega) (by omega)).mp c36
              refine lv_iload hx hb dX5_answersTo_67 (lv_at hl 6 rfl) ?_
              refine lv_if_le (tgt := 85) hx hb dX5_answersTo_69 (by decide) (fun c69 => ?_) (fun c69 => ?_)
              · have c69 := (nI_le0 (by omega)).mp c69
                refine lv_iload hx hb dX5_answersTo_85 (lv_at hl 6 rfl) ?_
                refine lv_if_eq (tgt := 98) hx hb dX5_answersTo_87 (by decide) (fun c87 => ?_) (fun c87 => ?_)
                · have c87 := (nI_eq (by omega) (by decide)).mp (c87.trans nI_0.symm)
                  refine lv_iconst (v := nI 1) hx hb dX5_answersTo_98 (by decide) ?_
                  refine lv_iload hx hb dX5_answersTo_99 (lv_at hl 6 rfl) ?_
                  refine lv_ishl hx hb dX5_answersTo_101 ?_
                  refine g_topi (y := nI (2 ^ z)) (g_shl (by omega)) ?_
                  refine lv_goto (tgt := 112) hx hb dX5_answersTo_102 (by decide) ?_
                  refine lv_istore (lv' := [(4, .int (nI (2 ^ z))), (0, .ref h), (1, .int (nI 0)), (2, .ref a), (3, .int (nI 0)), (5, .long mo), (7, .int (nI z)), (8, .long sm), (10, .int (nI y))]) hx hb dX5_answersTo_112 hl (by decide) rfl (fun ls hl => ?_)
                  refine lv_iload hx hb dX5_answersTo_114 (lv_at hl 6 rfl) ?_
                  refine lv_if_eq (tgt := 127) hx hb dX5_answersTo_116 (by decide) (fun c116 => ?_) (fun c116 => ?_)
                  · have c116 := (nI_eq (by omega) (by decide)).mp (c116.trans nI_0.symm)
                    refine lv_lload hx hb dX5_answersTo_127 (lv_at hl 7 rfl) ?_
                    refine lv_goto (tgt := 134) hx hb dX5_answersTo_129 (by decide) ?_
                    refine lv_lstore (lv' := [(5, .long sm), (4, .int (nI (2 ^ z))), (0, .ref h), (1, .int (nI 0)), (2, .ref a), (3, .int (nI 0)), (7, .int (nI z)), (8, .long sm), (10, .int (nI y))]) hx hb dX5_answersTo_134 hl (by decide) rfl (fun ls hl => ?_)
                    refine lv_iinc (v := nI (z + 1)) (lv' := [(7, .int (nI (z + 1))), (5, .long sm), (4, .int (nI (2 ^ z))), (0, .ref h), (1, .int (nI 0)), (2, .ref a), (3, .int (nI 0)), (8, .long sm), (10, .int (nI y))]) hx hb dX5_answersTo_136 hl (k := 6) rfl (nI_inc _) (by decide) rfl (fun ls hl => ?_)
                    have es : sm = (fun o => wsum (gsP0 st) (J a) o (gsn st)) z := by rw [h3, show y = gsn st from by omega]
                    have ea := an_z (f := (fun o => wsum (gsP0 st) (J a) o (gsn st))) (z := z) (by omega) es
                    refine lv_goto (tgt := 9) hx hb dX5_answersTo_139 (by decide) ?_
                    exact ih9 (z + 1) (2 ^ z) sm (by omega) (by omega) (by rw [ea]) (by rw [ea]) ls (lv_sub hl [3, 4, 5, 6, 2, 1, 0] rfl)
                  · have c116 := mt (fun q => ((nI_eq (b := 0) (by omega) (by decide)).mpr q).trans nI_0) c116
                    exact absurd c116 (by omega)
                · have c87 := mt (fun q => ((nI_eq (b := 0) (by omega) (by decide)).mpr q).trans nI_0) c87
                  exact absurd c87 (by omega)
              · have c69 := mt (nI_le0 (by omega)).mpr c69
                refine lv_lload hx hb dX5_answersTo_72 (lv_at hl 7 rfl) ?_
                refine lv_lload hx hb dX5_answersTo_74 (lv_at hl 5 rfl) ?_
                refine W.lcmp hx hb dX5_answersTo_76 ?_
                refine lv_if_ge (tgt := 85) hx hb dX5_answersTo_77 (by decide) (fun c77 => ?_) (fun c77 => ?_)
                · have c77 := (lg_cmp_ge _ _).mp c77
                  refine lv_iload hx hb dX5_answersTo_85 (lv_at hl 6 rfl) ?_
                  refine lv_if_eq (tgt := 98) hx hb dX5_answersTo_87 (by decide) (fun c87 => ?_) (fun c87 => ?_)
                  · have c87 := (nI_eq (by omega) (by decide)).mp (c87.trans nI_0.symm)
                    exact absurd c87 (by omega)
                  · have c87 := mt (fun q => ((nI_eq (b := 0) (by omega) (by decide)).mpr q).trans nI_0) c87
                    refine lv_lload hx hb dX5_answersTo_90 (lv_at hl 7 rfl) ?_
                    refine lv_lload hx hb dX5_answersTo_92 (lv_at hl 5 rfl) ?_
                    refine W.lcmp hx hb dX5_answersTo_94 ?_
                    refine lv_if_le (tgt := 105) hx hb dX5_answersTo_95 (by decide) (fun c95 => ?_) (fun c95 => ?_)
                    · have c95 := (lg_cmp_le _ _).mp c95
                      refine lv_iload hx hb dX5_answersTo_105 (lv_at hl 4 rfl) ?_
                      refine lv_iconst (v := nI 1) hx hb dX5_answersTo_107 (by decide) ?_
                      refine lv_iload hx hb dX5_answersTo_108 (lv_at hl 6 rfl) ?_
                      refine lv_ishl hx hb dX5_answersTo_110 ?_
                      refine g_topi (y := nI (2 ^ z)) (g_shl (by omega)) ?_
                      refine lv_ior hx hb dX5_answersTo_111 ?_
                      refine g_topi (y := nI (bi ||| 2 ^ z)) (g_or hb16 (pow_lt16 (by omega))) ?_
                      refine lv_istore (lv' := [(4, .int (nI (bi ||| 2 ^ z))), (0, .ref h), (1, .int (nI 0)), (2, .ref a), (3, .int (nI 0)), (5, .long mo), (7, .int (nI z)), (8, .long sm), (10, .int (nI y))]) hx hb dX5_answersTo_112 hl (by decide) rfl (fun ls hl => ?_)
                      refine lv_iload hx hb dX5_answersTo_114 (lv_at hl 6 rfl) ?_
                      refine lv_if_eq (tgt := 127) hx hb dX5_answersTo_116 (by decide) (fun c116 => ?_) (fun c116 => ?_)
                      · have c116 := (nI_eq (by omega) (by decide)).mp (c116.trans nI_0.symm)
                        exact absurd c116 (by omega)
                      · have c116 := mt (fun q => ((nI_eq (b := 0) (by omega) (by decide)).mpr q).trans nI_0) c116
                        refine lv_lload hx hb dX5_answersTo_119 (lv_at hl 7 rfl) ?_
                        refine lv_lload hx hb dX5_answersTo_121 (lv_at hl 5 rfl) ?_
                        refine W.lcmp hx hb dX5_answersTo_123 ?_
                        refine lv_if_le (tgt := 132) hx hb dX5_answersTo_124 (by decide) (fun c124 => ?_) (fun c124 => ?_)
                        · have c124 := (lg_cmp_le _ _).mp c124
                          refine lv_lload hx hb dX5_answersTo_132 (lv_at hl 5 rfl) ?_
                          refine lv_lstore (lv' := [(5, .long mo), (4, .int (nI (bi ||| 2 ^ z))), (0, .ref h), (1, .int (nI 0)), (2, .ref a), (3, .int (nI 0)), (7, .int (nI z)), (8, .long sm), (10, .int (nI y))]) hx hb dX5_answersTo_134 hl (by decide) rfl (fun ls hl => ?_)
                          refine lv_iinc (v := nI (z + 1)) (lv' := [(7, .int (nI (z + 1))), (5, .long mo), (4, .int (nI (bi ||| 2 ^ z))), (0, .ref h), (1, .int (nI 0)), (2, .ref a), (3, .int (nI 0)), (8, .long sm), (10, .int (nI y))]) hx hb dX5_answersTo_136 hl (k := 6) rfl (nI_inc _) (by decide) rfl (fun ls hl => ?_)
                          have es : sm = (fun o => wsum (gsP0 st) (J a) o (gsn st)) z := by rw [h3, show y = gsn st from by omega]
                          have ea := an_eq (f := (fun o => wsum (gsP0 st) (J a) o (gsn st))) (z := z) (by omega) es h2 h1 c77 c95
                          refine lv_goto (tgt := 9) hx hb dX5_answersTo_139 (by decide) ?_
                          exact ih9 (z + 1) (bi ||| 2 ^ z) mo (by omega) (by omega) (by rw [ea]) (by rw [ea]) ls (lv_sub hl [3, 4, 5, 6, 2, 1, 0] rfl)
                        · have c124 := mt (lg_cmp_le _ _).mpr c124
                          exact absurd c124 (by rw [Int64.le_iff_toInt_le] at *; omega)
                    · have c95 := mt (lg_cmp_le _ _).mpr c95
                      refine lv_iconst (v := nI 1) hx hb dX5_answersTo_98 (by decide) ?_
                      refine lv_iload hx hb dX5_answersTo_99 (lv_at hl 6 rfl) ?_
                      refine lv_ishl hx hb dX5_answersTo_101 ?_
                      refine g_topi (y := nI (2 ^ z)) (g_shl (by omega)) ?_
                      refine lv_goto (tgt := 112) hx hb dX5_answersTo_102 (by decide) ?_
                      refine lv_istore (lv' := [(4, .int (nI (2 ^ z))), (0, .ref h), (1, .int (nI 0)), (2, .ref a), (3, .int (nI 0)), (5, .long mo), (7, .int (nI z)), (8, .long sm), (10, .int (nI y))]) hx hb dX5_answersTo_112 hl (by decide) rfl (fun ls hl => ?_)
                      refine lv_iload hx hb dX5_answersTo_114 (lv_at hl 6 rfl) ?_
                      refine lv_if_eq (tgt := 127) hx hb dX5_answersTo_116 (by decide) (fun c116 => ?_) (fun c116 => ?_)
                      · have c116 := (nI_eq (by omega) (by decide)).mp (c116.trans nI_0.symm)
                        exact absurd c116 (by omega)
                      · have c116 := mt (fun q => ((nI_eq (b := 0) (by omega) (by decide)).mpr q).trans nI_0) c116
                        refine lv_lload hx hb dX5_answersTo_119 (lv_at hl 7 rfl) ?_
                        refine lv_lload hx hb dX5_answersTo_121 (lv_at hl 5 rfl) ?_
                        refine W.lcmp hx hb dX5_answersTo_123 ?_
                        refine lv_if_le (tgt := 132) hx hb dX5_answersTo_124 (by decide) (fun c124 => ?_) (fun c124 => ?_)
                        · have c124 := (lg_cmp_le _ _).mp c124
                          exact absurd c124 c95
                        · have c124 := mt (lg_cmp_le _ _).mpr c124
                          refine lv_lload hx hb dX5_answersTo_127 (lv_at hl 7 rfl) ?_
                          refine lv_goto (tgt := 134) hx hb dX5_answersTo_129 (by decide) ?_
                          refine lv_lstore (lv' := [(5, .long sm), (4, .int (nI (2 ^ z))), (0, .ref h), (1, .int (nI 0)), (2, .ref a), (3, .int (nI 0)), (7, .int (nI z)), (8, .long sm), (10, .int (nI y))]) hx hb dX5_answersTo_134 hl (by decide) rfl (fun ls hl => ?_)
                          refine lv_iinc (v := nI (z + 1)) (lv' := [(7, .int (nI (z + 1))), (5, .long sm), (4, .int (nI (2 ^ z))), (0, .ref h), (1, .int (nI 0)), (2, .ref a), (3, .int (nI 0)), (8, .long sm), (10, .int (nI y))]) hx hb dX5_answersTo_136 hl (k := 6) rfl (nI_inc _) (by decide) rfl (fun ls hl => ?_)
                          have es : sm = (fun o => wsum (gsP0 st) (J a) o (gsn st)) z := by rw [h3, show y = gsn st from by omega]
                          have ea := an_gt (f := (fun o => wsum (gsP0 st) (J a) o (gsn st))) (z := z) (by omega) es h2 h1 (Int64.not_le.mp c95)
                          refine lv_goto (tgt := 9) hx hb dX5_answersTo_139 (by decide) ?_
                          exact ih9 (z + 1) (2 ^ z) sm (by omega) (by omega) (by rw [ea]) (by rw [ea]) ls (lv_sub hl [3, 4, 5, 6, 2, 1, 0] rfl)
                · have c77 := mt (lg_cmp_ge _ _).mpr c77
                  refine lv_iload hx hb dX5_answersTo_80 (lv_at hl 4 rfl) ?_
                  refine lv_goto (tgt := 112) hx hb dX5_answersTo_82 (by decide) ?_
                  refine lv_istore (lv' := [(4, .int (nI bi)), (0, .ref h), (1, .int (nI 0)), (2, .ref a), (3, .int (nI 0)), (5, .long mo), (7, .int (nI z)), (8, .long sm), (10, .int (nI y))]) hx hb dX5_answersTo_112 hl (by decide) rfl (fun ls hl => ?_)
                  refine lv_iload hx hb dX5_answersTo_114 (lv_at hl 6 rfl) ?_
                  refine lv_if_eq (tgt := 127) hx hb dX5_answersTo_116 (by decide) (fun c116 => ?_) (fun c116 => ?_)
                  · have c116 := (nI_eq (by omega) (by decide)).mp (c116.trans nI_0.symm)
                    exact absurd c116 (by omega)
                  · have c116 := mt (fun q => ((nI_eq (b := 0) (by omega) (by decide)).mpr q).trans nI_0) c116
                    refine lv_lload hx hb dX5_answersTo_119 (lv_at hl 7 rfl) ?_
                    refine lv_lload hx hb dX5_answersTo_121 (lv_at hl 5 rfl) ?_
                    refine W.lcmp hx hb dX5_answersTo_123 ?_
                    refine lv_if_le (tgt := 132) hx hb dX5_answersTo_124 (by decide) (fun c124 => ?_) (fun c124 => ?_)
                    · have c124 := (lg_cmp_le _ _).mp c124
                      refine lv_lload hx hb dX5_answersTo_132 (lv_at hl 5 rfl) ?_
                      refine lv_lstore (lv' := [(5, .long mo), (4, .int (nI bi)), (0, .ref h), (1, .int (nI 0)), (2, .ref a), (3, .int (nI 0)), (7, .int (nI z)), (8, .long sm), (10, .int (nI y))]) hx hb dX5_answersTo_134 hl (by decide) rfl (fun ls hl => ?_)
                      refine lv_iinc (v := nI (z + 1)) (lv' := [(7, .int (nI (z + 1))), (5, .long mo), (4, .int (nI bi)), (0, .ref h), (1, .int (nI 0)), (2, .ref a), (3, .int (nI 0)), (8, .long sm), (10, .int (nI y))]) hx hb dX5_answersTo_136 hl (k := 6) rfl (nI_inc _) (by decide) rfl (fun ls hl => ?_)
                      have es : sm = (fun o => wsum (gsP0 st) (J a) o (gsn st)) z := by rw [h3, show y = gsn st from by omega]
                      have ea := an_lt (f := (fun o => wsum (gsP0 st) (J a) o (gsn st))) (z := z) (by omega) es h2 h1 (Int64.not_le.mp c77)
                      refine lv_goto (tgt := 9) hx hb dX5_answersTo_139 (by decide) ?_
                      exact ih9 (z + 1) bi mo (by omega) (by omega) (by rw [ea]) (by rw [ea]) ls (lv_sub hl [3, 4, 5, 6, 2, 1, 0] rfl)
                    · have c124 := mt (lg_cmp_le _ _).mpr c124
                      exact absurd c124 (by rw [Int64.le_iff_toInt_le] at *; omega)
            · have c36 := mt (nI_leI (by omega) (by omega)).mpr c36
              refine lv_lload hx hb dX5_answersTo_39 (lv_at hl 7 rfl) ?_
              refine lv_aload_n hx hb dX5_answersTo_41 rfl (lv_at hl 2 rfl) ?_
              refine lv_iload_n hx hb dX5_answersTo_42 rfl (lv_at hl 3 rfl) ?_
              refine lv_iload hx hb dX5_answersTo_43 (lv_at hl 8 rfl) ?_
              refine lv_iadd hx hb dX5_answersTo_45 ?_
              refine g_topi (y := nI (0 + y)) (nI_add _ _) ?_
              refine g_lald hC hP hTa (vp_in_nI (by omega) (by decide)) dX5_answersTo_46 ?_
              refine g_topl (y := J a y) ((congrArg (J a) (nI_clamp (by omega))).trans (by rw [Nat.zero_add])) ?_
              refine lv_aload_n hx hb dX5_answersTo_47 rfl (lv_at hl 0 rfl) ?_
              refine lv_iload_n hx hb dX5_answersTo_48 rfl (lv_at hl 1 rfl) ?_
              refine lv_iload hx hb dX5_answersTo_49 (lv_at hl 6 rfl) ?_
              refine lv_iload hx hb dX5_answersTo_51 (lv_at hl 8 rfl) ?_
              refine g_cp (g_rV (As := [.int (nI 0), .int (nI z), .int (nI y)]) hC hP (c_X5_get l hP (h := h) (w := 0) (i := z) (k := y) (by first | assumption | omega) (by first | assumption | omega) (by first | assumption | omega) (by first | assumption | omega) (by first | assumption | omega)) hm.1 rfl ⟨q3_139, q3_136, q3_138, qs_34, q1_6⟩ dd_X5_get ⟨Nat.le_of_ble_eq_true rfl, Nat.le_of_ble_eq_true rfl, rfl, rfl⟩ hl.1 rfl (Nat.le_of_ble_eq_true rfl) dX5_answersTo_53 ⟨Nat.le_of_ble_eq_true rfl, Nat.le_of_ble_eq_true rfl⟩) ?_
              refine W.eq (g2 := F0 m 56 ls [.int (gsP0 st (z * 4 + y)), .long (J a y), .long sm]) rfl ?_
              refine lv_i2l hx hb dX5_answersTo_56 rfl ?_
              refine lv_lmul hx hb dX5_answersTo_57 ?_
              refine lv_ladd hx hb dX5_answersTo_58 ?_
              refine lv_lstore (lv' := [(8, .long (sm + ((J a y) * ((gsP0 st (z * 4 + y)).toInt64)))), (0, .ref h), (1, .int (nI 0)), (2, .ref a), (3, .int (nI 0)), (4, .int (nI bi)), (5, .long mo), (7, .int (nI z)), (10, .int (nI y))]) hx hb dX5_answersTo_59 hl (by decide) rfl (fun ls hl => ?_)
              refine lv_iinc (v := nI (y + 1)) (lv' := [(10, .int (nI (y + 1))), (8, .long (sm + ((J a y) * ((gsP0 st (z * 4 + y)).toInt64)))), (0, .ref h), (1, .int (nI 0)), (2, .ref a), (3, .int (nI 0)), (4, .int (nI bi)), (5, .long mo), (7, .int (nI z))]) hx hb dX5_answersTo_61 hl (k := 8) rfl (nI_inc _) (by decide) rfl (fun ls hl => ?_)
              refine lv_goto (tgt := 26) hx hb dX5_answersTo_64 (by decide) ?_
              exact ih26 (y + 1) (sm + ((J a y) * ((gsP0 st (z * 4 + y)).toInt64))) (by omega) (by omega) (by rw [h3]; rfl) ls (lv_sub hl [2, 3, 4, 5, 6, 7, 8, 1, 0] rfl)
        exact L26 5 0 (0 : Int64) (by omega) (by omega) rfl ls (lv_sub hl [2, 3, 4, 5, 6, 7, 8, 1, 0] rfl)
  exact L9 5 0 0 (0 : Int64) (by omega) (by omega) rfl rfl ls (lv_sub hl [3, 4, 5, 6, 2, 1, 0] rfl)
set_option maxHeartbeats 4000000 in
set_option maxRecDepth 100000 in
theorem c_X5_answersTo_1 (l : Launch) {G : gG} {T : gTy} {I : gI} {J : gJ} {Q : gR} {O : gO} {H : Heap} (hP : gP G T I J Q O H) {h : Nat} {st : GS} {a : Nat} (hm : isMo T O h) (hs0 : moS I h st) (hTa : T a = (3, 4)) : Met l yX5_answersTo (gw yX5_answersTo cX5_answersTo 11 (some (.int))) ({ frames := 1, cells := 0, slots := 0, locals := 23 } : Room) (gPc G H [.ref h, .int (nI 1), .ref a, .int (nI 0)]) (gQp (some (.int (nI (ansM (gsP1 st) (J a) (gsn st) (gsm st)))))) 0 0 (fun _ => False) := by
  refine g_met [(0, .ref h), (1, .int (nI 1)), (2, .ref a), (3, .int (nI 0))] (by decide) rfl (by exact Nat.le_of_ble_eq_true rfl) ?_
  intro p e s m below meth c hC hs ls hl
  have hx := hC.1.1
  have hb := hC.1.2.1
  have hms := hs0.1
  have hns := hs0.2.1
  refine lv_iconst (v := nI 0) hx hb dX5_answersTo_0 (by decide) ?_
  refine lv_istore (lv' := [(4, .int (nI 0)), (0, .ref h), (1, .int (nI 1)), (2, .ref a), (3, .int (nI 0))]) hx hb dX5_answersTo_1 hl (by decide) rfl (fun ls hl => ?_)
  refine lv_lconst (v := 0) hx hb dX5_answersTo_3 (by decide) ?_
  refine lv_lstore (lv' := [(5, .long (0 : Int64)), (4, .int (nI 0)), (0, .ref h), (1, .int (nI 1)), (2, .ref a), (3, .int (nI 0))]) hx hb dX5_answersTo_4 hl (by decide) rfl (fun ls hl => ?_)
  refine lv_iconst (v := nI 0) hx hb dX5_answersTo_6 (by decide) ?_
  refine lv_istore (lv' := [(7, .int (nI 0)), (5, .long (0 : Int64)), (4, .int (nI 0)), (0, .ref h), (1, .int (nI 1)), (2, .ref a), (3, .int (nI 0))]) hx hb dX5_answersTo_7 hl (by decide) rfl (fun ls hl => ?_)
  have L9 : ∀ (n9 : Nat) (z : Nat) (bi : Nat) (mo : Int64), 5 ≤ n9 + z → (z ≤ gsn st) → (bi = (anM (fun o => wsum (gsP1 st) (J a) o (gsm st)) z).2) → (mo = (anM (fun o => wsum (gsP1 st) (J a) o (gsm st)) z).1) → ∀ ls : Array Slot, lv_has ls 11 [(0, .ref h), (1, .int (nI 1)), (2, .ref a), (3, .int (nI 0)), (4, .int (nI bi)), (5, .long mo), (7, .int (nI z))] → W p l e ({ frames := 1, cells := 0, slots := 0, locals := 23 } : Room) s m [.ref h, .int (nI 1), .ref a, .int (nI 0)].toArray below meth c H [] 0 0 (MQ below (gQp (some (.int (nI (ansM (gsP1 st) (J a) (gsn st) (gsm st)))))) [.ref h, .int (nI 1), .ref a, .int (nI 0)].toArray s 0 0 (fun _ => False)) (F0 m 9 ls []) := by
    intro n9
    induction n9 with
    | zero => intro z bi mo hn9 hz h1 h2; exact absurd hn9 (by omega)
    | succ n9 ih9 =>
      intro z bi mo hn9 hz h1 h2 ls hl
      have hb16 : bi < 16 := by rw [h1]; exact anM_lt _ z (by omega)
      refine lv_iload hx hb dX5_answersTo_9 (lv_at hl 6 rfl) ?_
      refine lv_aload_n hx hb dX5_answersTo_11 rfl (lv_at hl 0 rfl) ?_
      refine g_get hC hP hm.1 rfl inX5 0 (by decide) q3_6 hm.2.1.1 dX5_answersTo_12 ?_
      refine lv_iload_n hx hb dX5_answersTo_15 rfl (lv_at hl 1 rfl) ?_
      refine g_iald hC hP hm.2.1.2 (vp_in_nI (by omega) (by decide)) dX5_answersTo_16 ?_
      refine g_topi (y := nI (gsn st)) hs0.2.2.2.1 ?_
      refine lv_icmp_ge (tgt := 142) hx hb dX5_answersTo_17 (by decide) (fun c17 => ?_) (fun c17 => ?_)
      · have c17 := (nI_leI (by omega) (by omega)).mp c17
        refine lv_iload hx hb dX5_answersTo_142 (lv_at hl 4 rfl) ?_
        refine g_reti hC hs ?_ dX5_answersTo_144
        rw [h1, show z = gsn st from by omega]; rfl
      · have c17 := mt (nI_leI (by omega) (by omega)).mpr c17
        refine lv_lconst (v := 0) hx hb dX5_answersTo_20 (by decide) ?_
        refine lv_lstore (lv' := [(8, .long (0 : Int64)), (0, .ref h), (1, .int (nI 1)), (2, .ref a), (3, .int (nI 0)), (4, .int (nI bi)), (5, .long mo), (7, .int (nI z))]) hx hb dX5_answersTo_21 hl (by decide) rfl (fun ls hl => ?_)
        refine lv_iconst (v := nI 0) hx hb dX5_answersTo_23 (by decide) ?_
        refine lv_istore (lv' := [(10, .int (nI 0)), (8, .long (0 : Int64)), (0, .ref h), (1, .int (nI 1)), (2, .ref a), (3, .int (nI 0)), (4, .int (nI bi)), (5, .long mo), (7, .int (nI z))]) hx hb dX5_answersTo_24 hl (by decide) rfl (fun ls hl => ?_)
        have L26 : ∀ (n26 : Nat) (y : Nat) (sm : Int64), 5 ≤ n26 + y → (y ≤ gsm st) → (sm = wsum (gsP1 st) (J a) z y) → ∀ ls : Array Slot, lv_has ls 11 [(0, .ref h), (1, .int (nI 1)), (2, .ref a), (3, .int (nI 0)), (4, .int (nI bi)), (5, .long mo), (7, .int (nI z)), (8, .long sm), (10, .int (nI y))] → W p l e ({ frames := 1, cells := 0, slots := 0, locals := 23 } : Room) s m [.ref h, .int (nI 1), .ref a, .int (nI 0)].toArray below meth c H [] 0 0 (MQ below (gQp (some (.int (nI (ansM (gsP1 st) (J a) (gsn st) (gsm st)))))) [.ref h, .int (nI 1), .ref a, .int (nI 0)].toArray s 0 0 (fun _ => False)) (F0 m 26 ls []) := by
          intro n26
          induction n26 with
          | zero => intro y sm hn26 hy h3; exact absurd hn26 (by omega)
          | succ n26 ih26 =>
            intro y sm hn26 hy h3 ls hl
            refine lv_iload hx hb dX5_answersTo_26 (lv_at hl 8 rfl) ?_
            refine lv_aload_n hx hb dX5_answersTo_28 rfl (lv_at hl 0 rfl) ?_
            refine g_get hC hP hm.1 rfl inX5 0 (by decide) q3_6 hm.2.1.1 dX5_answersTo_29 ?_
            refine lv_iconst (v := nI 1) hx hb dX5_answersTo_32 (by decide) ?_
            refine lv_iload_n hx hb dX5_answersTo_33 rfl (lv_at hl 1 rfl) ?_
            refine lv_isub hx hb dX5_answersTo_34 ?_
            refine g_topi (y := nI 0) (by decide) ?_
            refine g_iald hC hP hm.2.1.2 (vp_in_nI (by omega) (by decide)) dX5_answersTo_35 ?_
            refine g_topi (y := nI (gsm st)) hs0.2.2.1 ?_
            refine lv_icmp_ge (tgt := 67) hx hb dX5_answersTo_36 (by decide) (fun c36 => ?_) (fun c36 => ?_)
            · have c36 := (nI_leI (by omega) (by omega)).mp c36
              refine lv_iload hx hb dX5_answersTo_67 (lv_at hl 6 rfl) ?_
              refine lv_if_le (tgt := 85) hx hb dX5_answersTo_69 (by decide) (fun c69 => ?_) (fun c69 => ?_)
              · have c69 := (nI_le0 (by omega)).mp c69
                refine lv_iload hx hb dX5_answersTo_85 (lv_at hl 6 rfl) ?_
                refine lv_if_eq (tgt := 98) hx hb dX5_answersTo_87 (by decide) (fun c87 => ?_) (fun c87 => ?_)
                · have c87 := (nI_eq (by omega) (by decide)).mp (c87.trans nI_0.symm)
                  refine lv_iconst (v := nI 1) hx hb dX5_answersTo_98 (by decide) ?_
                  refine lv_iload hx hb dX5_answersTo_99 (lv_at hl 6 rfl) ?_
                  refine lv_ishl hx hb dX5_answersTo_101 ?_
                  refine g_topi (y := nI (2 ^ z)) (g_shl (by omega)) ?_
                  refine lv_goto (tgt := 112) hx hb dX5_answersTo_102 (by decide) ?_
                  refine lv_istore (lv' := [(4, .int (nI (2 ^ z))), (0, .ref h), (1, .int (nI 1)), (2, .ref a), (3, .int (nI 0)), (5, .long mo), (7, .int (nI z)), (8, .long sm), (10, .int (nI y))]) hx hb dX5_answersTo_112 hl (by decide) rfl (fun ls hl => ?_)
                  refine lv_iload hx hb dX5_answersTo_114 (lv_at hl 6 rfl) ?_
                  refine lv_if_eq (tgt := 127) hx hb dX5_answersTo_116 (by decide) (fun c116 => ?_) (fun c116 => ?_)
                  · have c116 := (nI_eq (by omega) (by decide)).mp (c116.trans nI_0.symm)
                    refine lv_lload hx hb dX5_answersTo_127 (lv_at hl 7 rfl) ?_
                    refine lv_goto (tgt := 134) hx hb dX5_answersTo_129 (by decide) ?_
                    refine lv_lstore (lv' := [(5, .long sm), (4, .int (nI (2 ^ z))), (0, .ref h), (1, .int (nI 1)), (2, .ref a), (3, .int (nI 0)), (7, .int (nI z)), (8, .long sm), (10, .int (nI y))]) hx hb dX5_answersTo_134 hl (by decide) rfl (fun ls hl => ?_)
                    refine lv_iinc (v := nI (z + 1)) (lv' := [(7, .int (nI (z + 1))), (5, .long sm), (4, .int (nI (2 ^ z))), (0, .ref h), (1, .int (nI 1)), (2, .ref a), (3, .int (nI 0)), (8, .long sm), (10, .int (nI y))]) hx hb dX5_answersTo_136 hl (k := 6) rfl (nI_inc _) (by decide) rfl (fun ls hl => ?_)
                    have es : sm = (fun o => wsum (gsP1 st) (J a) o (gsm st)) z := by rw [h3, show y = gsm st from by omega]
                    have ea := an_z (f := (fun o => wsum (gsP1 st) (J a) o (gsm st))) (z := z) (by omega) es
                    refine lv_goto (tgt := 9) hx hb dX5_answersTo_139 (by decide) ?_
                    exact ih9 (z + 1) (2 ^ z) sm (by omega) (by omega) (by rw [ea]) (by rw [ea]) ls (lv_sub hl [3, 4, 5, 6, 2, 1, 0] rfl)
                  · have c116 := mt (fun q => ((nI_eq (b := 0) (by omega) (by decide)).mpr q).trans nI_0) c116
                    exact absurd c116 (by omega)
                · have c87 := mt (fun q => ((nI_eq (b := 0) (by omega) (by decide)).mpr q).trans nI_0) c87
                  exact absurd c87 (by omega)
              · have c69 := mt (nI_le0 (by omega)).mpr c69
                refine lv_lload hx hb dX5_answersTo_72 (lv_at hl 7 rfl) ?_
                refine lv_lload hx hb dX5_answersTo_74 (lv_at hl 5 rfl) ?_
                refine W.lcmp hx hb dX5_answersTo_76 ?_
                refine lv_if_ge (tgt := 85) hx hb dX5_answersTo_77 (by decide) (fun c77 => ?_) (fun c77 => ?_)
                · have c77 := (lg_cmp_ge _ _).mp c77
                  refine lv_iload hx hb dX5_answersTo_85 (lv_at hl 6 rfl) ?_
                  refine lv_if_eq (tgt := 98) hx hb dX5_answersTo_87 (by decide) (fun c87 => ?_) (fun c87 => ?_)
                  · have c87 := (nI_eq (by omega) (by decide)).mp (c87.trans nI_0.symm)
                    exact absurd c87 (by omega)
                  · have c87 := mt (fun q => ((nI_eq (b := 0) (by omega) (by decide)).mpr q).trans nI_0) c87
                    refine lv_lload hx hb dX5_answersTo_90 (lv_at hl 7 rfl) ?_
                    refine lv_lload hx hb dX5_answersTo_92 (lv_at hl 5 rfl) ?_
                    refine W.lcmp hx hb dX5_answersTo_94 ?_
                    refine lv_if_le (tgt := 105) hx hb dX5_answersTo_95 (by decide) (fun c95 => ?_) (fun c95 => ?_)
                    · have c95 := (lg_cmp_le _ _).mp c95
                      refine lv_iload hx hb dX5_answersTo_105 (lv_at hl 4 rfl) ?_
                      refine lv_iconst (v := nI 1) hx hb dX5_answersTo_107 (by decide) ?_
                      refine lv_iload hx hb dX5_answersTo_108 (lv_at hl 6 rfl) ?_
                      refine lv_ishl hx hb dX5_answersTo_110 ?_
                      refine g_topi (y := nI (2 ^ z)) (g_shl (by omega)) ?_
                      refine lv_ior hx hb dX5_answersTo_111 ?_
                      refine g_topi (y := nI (bi ||| 2 ^ z)) (g_or hb16 (pow_lt16 (by omega))) ?_
                      refine lv_istore (lv' := [(4, .int (nI (bi ||| 2 ^ z))), (0, .ref h), (1, .int (nI 1)), (2, .ref a), (3, .int (nI 0)), (5, .long mo), (7, .int (nI z)), (8, .long sm), (10, .int (nI y))]) hx hb dX5_answersTo_112 hl (by decide) rfl (fun ls hl => ?_)
                      refine lv_iload hx hb dX5_answersTo_114 (lv_at hl 6 rfl) ?_
                      refine lv_if_eq (tgt := 127) hx hb dX5_answersTo_116 (by decide) (fun c116 => ?_) (fun c116 => ?_)
                      · have c116 := (nI_eq (by omega) (by decide)).mp (c116.trans nI_0.symm)
                        exact absurd c116 (by omega)
                      · have c116 := mt (fun q => ((nI_eq (b := 0) (by omega) (by decide)).mpr q).trans nI_0) c116
                        refine lv_lload hx hb dX5_answersTo_119 (lv_at hl 7 rfl) ?_
                        refine lv_lload hx hb dX5_answersTo_121 (lv_at hl 5 rfl) ?_
                        refine W.lcmp hx hb dX5_answersTo_123 ?_
                        refine lv_if_le (tgt := 132) hx hb dX5_answersTo_124 (by decide) (fun c124 => ?_) (fun c124 => ?_)
                        · have c124 := (lg_cmp_le _ _).mp c124
                          refine lv_lload hx hb dX5_answersTo_132 (lv_at hl 5 rfl) ?_
                          refine lv_lstore (lv' := [(5, .long mo), (4, .int (nI (bi ||| 2 ^ z))), (0, .ref h), (1, .int (nI 1)), (2, .ref a), (3, .int (nI 0)), (7, .int (nI z)), (8, .long sm), (10, .int (nI y))]) hx hb dX5_answersTo_134 hl (by decide) rfl (fun ls hl => ?_)
                          refine lv_iinc (v := nI (z + 1)) (lv' := [(7, .int (nI (z + 1))), (5, .long mo), (4, .int (nI (bi ||| 2 ^ z))), (0, .ref h), (1, .int (nI 1)), (2, .ref a), (3, .int (nI 0)), (8, .long sm), (10, .int (nI y))]) hx hb dX5_answersTo_136 hl (k := 6) rfl (nI_inc _) (by decide) rfl (fun ls hl => ?_)
                          have es : sm = (fun o => wsum (gsP1 st) (J a) o (gsm st)) z := by rw [h3, show y = gsm st from by omega]
                          have ea := an_eq (f := (fun o => wsum (gsP1 st) (J a) o (gsm st))) (z := z) (by omega) es h2 h1 c77 c95
                          refine lv_goto (tgt := 9) hx hb dX5_answersTo_139 (by decide) ?_
                          exact ih9 (z + 1) (bi ||| 2 ^ z) mo (by omega) (by omega) (by rw [ea]) (by rw [ea]) ls (lv_sub hl [3, 4, 5, 6, 2, 1, 0] rfl)
                        · have c124 := mt (lg_cmp_le _ _).mpr c124
                          exact absurd c124 (by rw [Int64.le_iff_toInt_le] at *; omega)
                    · have c95 := mt (lg_cmp_le _ _).mpr c95
                      refine lv_iconst (v := nI 1) hx hb dX5_answersTo_98 (by decide) ?_
                      refine lv_iload hx hb dX5_answersTo_99 (lv_at hl 6 rfl) ?_
                      refine lv_ishl hx hb dX5_answersTo_101 ?_
                      refine g_topi (y := nI (2 ^ z)) (g_shl (by omega)) ?_
                      refine lv_goto (tgt := 112) hx hb dX5_answersTo_102 (by decide) ?_
                      refine lv_istore (lv' := [(4, .int (nI (2 ^ z))), (0, .ref h), (1, .int (nI 1)), (2, .ref a), (3, .int (nI 0)), (5, .long mo), (7, .int (nI z)), (8, .long sm), (10, .int (nI y))]) hx hb dX5_answersTo_112 hl (by decide) rfl (fun ls hl => ?_)
                      refine lv_iload hx hb dX5_answersTo_114 (lv_at hl 6 rfl) ?_
                      refine lv_if_eq (tgt := 127) hx hb dX5_answersTo_116 (by decide) (fun c116 => ?_) (fun c116 => ?_)
                      · have c116 := (nI_eq (by omega) (by decide)).mp (c116.trans nI_0.symm)
                        exact absurd c116 (by omega)
                      · have c116 := mt (fun q => ((nI_eq (b := 0) (by omega) (by decide)).mpr q).trans nI_0) c116
                        refine lv_lload hx hb dX5_answersTo_119 (lv_at hl 7 rfl) ?_
                        refine lv_lload hx hb dX5_answersTo_121 (lv_at hl 5 rfl) ?_
                        refine W.lcmp hx hb dX5_answersTo_123 ?_
                        refine lv_if_le (tgt := 132) hx hb dX5_answersTo_124 (by decide) (fun c124 => ?_) (fun c124 => ?_)
                        · have c124 := (lg_cmp_le _ _).mp c124
                          exact absurd c124 c95
                        · have c124 := mt (lg_cmp_le _ _).mpr c124
                          refine lv_lload hx hb dX5_answersTo_127 (lv_at hl 7 rfl) ?_
                          refine lv_goto (tgt := 134) hx hb dX5_answersTo_129 (by decide) ?_
                          refine lv_lstore (lv' := [(5, .long sm), (4, .int (nI (2 ^ z))), (0, .ref h), (1, .int (nI 1)), (2, .ref a), (3, .int (nI 0)), (7, .int (nI z)), (8, .long sm), (10, .int (nI y))]) hx hb dX5_answersTo_134 hl (by decide) rfl (fun ls hl => ?_)
                          refine lv_iinc (v := nI (z + 1)) (lv' := [(7, .int (nI (z + 1))), (5, .long sm), (4, .int (nI (2 ^ z))), (0, .ref h), (1, .int (nI 1)), (2, .ref a), (3, .int (nI 0)), (8, .long sm), (10, .int (nI y))]) hx hb dX5_answersTo_136 hl (k := 6) rfl (nI_inc _) (by decide) rfl (fun ls hl => ?_)
                          have es : sm = (fun o => wsum (gsP1 st) (J a) o (gsm st)) z := by rw [h3, show y = gsm st from by omega]
                          have ea := an_gt (f := (fun o => wsum (gsP1 st) (J a) o (gsm st))) (z := z) (by omega) es h2 h1 (Int64.not_le.mp c95)
                          refine lv_goto (tgt := 9) hx hb dX5_answersTo_139 (by decide) ?_
                          exact ih9 (z + 1) (2 ^ z) sm (by omega) (by omega) (by rw [ea]) (by rw [ea]) ls (lv_sub hl [3, 4, 5, 6, 2, 1, 0] rfl)
                · have c77 := mt (lg_cmp_ge _ _).mpr c77
                  refine lv_iload hx hb dX5_answersTo_80 (lv_at hl 4 rfl) ?_
                  refine lv_goto (tgt := 112) hx hb dX5_answersTo_82 (by decide) ?_
                  refine lv_istore (lv' := [(4, .int (nI bi)), (0, .ref h), (1, .int (nI 1)), (2, .ref a), (3, .int (nI 0)), (5, .long mo), (7, .int (nI z)), (8, .long sm), (10, .int (nI y))]) hx hb dX5_answersTo_112 hl (by decide) rfl (fun ls hl => ?_)
                  refine lv_iload hx hb dX5_answersTo_114 (lv_at hl 6 rfl) ?_
                  refine lv_if_eq (tgt := 127) hx hb dX5_answersTo_116 (by decide) (fun c116 => ?_) (fun c116 => ?_)
                  · have c116 := (nI_eq (by omega) (by decide)).mp (c116.trans nI_0.symm)
                    exact absurd c116 (by omega)
                  · have c116 := mt (fun q => ((nI_eq (b := 0) (by omega) (by decide)).mpr q).trans nI_0) c116
                    refine lv_lload hx hb dX5_answersTo_119 (lv_at hl 7 rfl) ?_
                    refine lv_lload hx hb dX5_answersTo_121 (lv_at hl 5 rfl) ?_
                    refine W.lcmp hx hb dX5_answersTo_123 ?_
                    refine lv_if_le (tgt := 132) hx hb dX5_answersTo_124 (by decide) (fun c124 => ?_) (fun c124 => ?_)
                    · have c124 := (lg_cmp_le _ _).mp c124
                      refine lv_lload hx hb dX5_answersTo_132 (lv_at hl 5 rfl) ?_
                      refine lv_lstore (lv' := [(5, .long mo), (4, .int (nI bi)), (0, .ref h), (1, .int (nI 1)), (2, .ref a), (3, .int (nI 0)), (7, .int (nI z)), (8, .long sm), (10, .int (nI y))]) hx hb dX5_answersTo_134 hl (by decide) rfl (fun ls hl => ?_)
                      refine lv_iinc (v := nI (z + 1)) (lv' := [(7, .int (nI (z + 1))), (5, .long mo), (4, .int (nI bi)), (0, .ref h), (1, .int (nI 1)), (2, .ref a), (3, .int (nI 0)), (8, .long sm), (10, .int (nI y))]) hx hb dX5_answersTo_136 hl (k := 6) rfl (nI_inc _) (by decide) rfl (fun ls hl => ?_)
                      have es : sm = (fun o => wsum (gsP1 st) (J a) o (gsm st)) z := by rw [h3, show y = gsm st from by omega]
                      have ea := an_lt (f := (fun o => wsum (gsP1 st) (J a) o (gsm st))) (z := z) (by omega) es h2 h1 (Int64.not_le.mp c77)
                      refine lv_goto (tgt := 9) hx hb dX5_answersTo_139 (by decide) ?_
                      exact ih9 (z + 1) bi mo (by omega) (by omega) (by rw [ea]) (by rw [ea]) ls (lv_sub hl [3, 4, 5, 6, 2, 1, 0] rfl)
                    · have c124 := mt (lg_cmp_le _ _).mpr c124
                      exact absurd c124 (by rw [Int64.le_iff_toInt_le] at *; omega)
            · have c36 := mt (nI_leI (by omega) (by omega)).mpr c36
              refine lv_lload hx hb dX5_answersTo_39 (lv_at hl 7 rfl) ?_
              refine lv_aload_n hx hb dX5_answersTo_41 rfl (lv_at hl 2 rfl) ?_
              refine lv_iload_n hx hb dX5_answersTo_42 rfl (lv_at hl 3 rfl) ?_
              refine lv_iload hx hb dX5_answersTo_43 (lv_at hl 8 rfl) ?_
              refine lv_iadd hx hb dX5_answersTo_45 ?_
              refine g_topi (y := nI (0 + y)) (nI_add _ _) ?_
              refine g_lald hC hP hTa (vp_in_nI (by omega) (by decide)) dX5_answersTo_46 ?_
              refine g_topl (y := J a y) ((congrArg (J a) (nI_clamp (by omega))).trans (by rw [Nat.zero_add])) ?_
              refine lv_aload_n hx hb dX5_answersTo_47 rfl (lv_at hl 0 rfl) ?_
              refine lv_iload_n hx hb dX5_answersTo_48 rfl (lv_at hl 1 rfl) ?_
              refine lv_iload hx hb dX5_answersTo_49 (lv_at hl 6 rfl) ?_
              refine lv_iload hx hb dX5_answersTo_51 (lv_at hl 8 rfl) ?_
              refine g_cp (g_rV (As := [.int (nI 1), .int (nI z), .int (nI y)]) hC hP (c_X5_get l hP (h := h) (w := 1) (i := z) (k := y) (by first | assumption | omega) (by first | assumption | omega) (by first | assumption | omega) (by first | assumption | omega) (by first | assumption | omega)) hm.1 rfl ⟨q3_139, q3_136, q3_138, qs_34, q1_6⟩ dd_X5_get ⟨Nat.le_of_ble_eq_true rfl, Nat.le_of_ble_eq_true rfl, rfl, rfl⟩ hl.1 rfl (Nat.le_of_ble_eq_true rfl) dX5_answersTo_53 ⟨Nat.le_of_ble_eq_true rfl, Nat.le_of_ble_eq_true rfl⟩) ?_
              refine W.eq (g2 := F0 m 56 ls [.int (gsP1 st (z * 4 + y)), .long (J a y), .long sm]) rfl ?_
              refine lv_i2l hx hb dX5_answersTo_56 rfl ?_
              refine lv_lmul hx hb dX5_answersTo_57 ?_
              refine lv_ladd hx hb dX5_answersTo_58 ?_
              refine lv_lstore (lv' := [(8, .long (sm + ((J a y) * ((gsP1 st (z * 4 + y)).toInt64)))), (0, .ref h), (1, .int (nI 1)), (2, .ref a), (3, .int (nI 0)), (4, .int (nI bi)), (5, .long mo), (7, .int (nI z)), (10, .int (nI y))]) hx hb dX5_answersTo_59 hl (by decide) rfl (fun ls hl => ?_)
              refine lv_iinc (v := nI (y + 1)) (lv' := [(10, .int (nI (y + 1))), (8, .long (sm + ((J a y) * ((gsP1 st (z * 4 + y)).toInt64)))), (0, .ref h), (1, .int (nI 1)), (2, .ref a), (3, .int (nI 0)), (4, .int (nI bi)), (5, .long mo), (7, .int (nI z))]) hx hb dX5_answersTo_61 hl (k := 8) rfl (nI_inc _) (by decide) rfl (fun ls hl => ?_)
              refine lv_goto (tgt := 26) hx hb dX5_answersTo_64 (by decide) ?_
              exact ih26 (y + 1) (sm + ((J a y) * ((gsP1 st (z * 4 + y)).toInt64))) (by omega) (by omega) (by rw [h3]; rfl) ls (lv_sub hl [2, 3, 4, 5, 6, 7, 8, 1, 0] rfl)
        exact L26 5 0 (0 : Int64) (by omega) (by omega) rfl ls (lv_sub hl [2, 3, 4, 5, 6, 7, 8, 1, 0] rfl)
  exact L9 5 0 0 (0 : Int64) (by omega) (by omega) rfl rfl ls (lv_sub hl [3, 4, 5, 6, 2, 1, 0] rfl)
theorem tr_z {X : Nat → Int64} {w : Nat → Int32} {ch : Nat} : ∀ j, ch ≤ j → j < 4 → trayX X w ch 4 j = 0 := fun j h1 h2 => by
  unfold trayX
  rw [if_pos h2, if_neg (by omega)]
theorem tr_tw {X : Nat → Int64} {w : Nat → Int32} {ch : Nat} : ∀ j, j < 4 → trayX X w ch 4 j = twS w ch j := fun j h => by
  unfold trayX twS
  rw [if_pos h]
theorem tr_0 {J J2 : gJ} {h : Nat} {st : GS} (hs : (1 ≤ gsm st ∧ gsm st ≤ 4) ∧ (1 ≤ gsn st ∧ gsn st ≤ 4)) (hJ : J2 = gu (gu J (h + 5) (trayX (J (h + 5)) (gsw0 st) (gsm st) 4)) (h + 6) (trayX (J (h + 6)) (gsw1 st) (gsn st) 4)) : ansM (gsP0 st) (J2 (h + 6)) (gsm st) (gsn st) = (gsT1 st).2.2.2 := by
  rw [hJ, gu_eq, ansM_B hs.1.1 hs.2.2 tr_z, ansB_congr tr_tw]
  rfl
theorem tr_1 {J J2 : gJ} {h : Nat} {st : GS} (hs : (1 ≤ gsm st ∧ gsm st ≤ 4) ∧ (1 ≤ gsn st ∧ gsn st ≤ 4)) (hJ : J2 = gu (gu J (h + 5) (trayX (J (h + 5)) (gsw0 st) (gsm st) 4)) (h + 6) (trayX (J (h + 6)) (gsw1 st) (gsn st) 4)) : ansM (gsP1 st) (J2 (h + 5)) (gsn st) (gsm st) = (gsT0 st).2.2.2 := by
  rw [hJ, gu_ne _ _ (by omega), gu_eq, ansM_B hs.2.1 hs.1.2 tr_z, ansB_congr tr_tw]
  rfl
set_option maxHeartbeats 4000000 in
set_option maxRecDepth 100000 in
theorem c_X5_trayAnswers_0 (l : Launch) {G : gG} {T : gTy} {I : gI} {J : gJ} {Q : gR} {O : gO} {H : Heap} (hP : gP G T I J Q O H) {h : Nat} {st : GS} (hm : isMo T O h) (hs0 : moS I h st) : Met l yX5_trayAnswers (gw yX5_trayAnswers cX5_trayAnswers 2 (some (.int))) ({ frames := 2, cells := 0, slots := 0, locals := 53 } : Room) (gPc G H [.ref h, .int (nI 0)]) (gQc (gF T H) (fun r H1 => r = some (.int (nI ((gsT1 st).2.2.2))) ∧ gP G T I (gu (gu J (h + 5) (trayX (J (h + 5)) (gsw0 st) (gsm st) 4)) (h + 6) (trayX (J (h + 6)) (gsw1 st) (gsn st) 4)) Q O H1)) 0 0 (gF T H) := by
  refine g_met [(0, .ref h), (1, .int (nI 0))] (by decide) rfl (by exact Nat.le_of_ble_eq_true rfl) ?_
  intro p e s m below meth c hC hs ls hl
  have hx := hC.1.1
  have hb := hC.1.2.1
  have hS : va_S (gF T H) s.heap H [] := hs ▸ va_S.rf
  have hTA : ∀ q, (T q).1 ≠ 0 → gF T H q := fun q h => Or.inl h
  have hA : ∀ q, s.heap.size ≤ q → gF T H q := fun q h => Or.inr (hs ▸ h)
  generalize hAe : gF T H = A at hS hTA hA ⊢
  have hms := hs0.1
  have hns := hs0.2.1
  refine lv_aload_n hx hb dX5_trayAnswers_0 rfl (lv_at hl 0 rfl) ?_
  refine g_cc (g_rV (As := []) hC hP (c_X5_showTray l hP (h := h) (by first | assumption | omega) (by first | assumption | omega)) hm.1 rfl ⟨q3_116, q3_113, q3_115, qs_30, q1_6⟩ dd_X5_showTray ⟨Nat.le_of_ble_eq_true rfl, Nat.le_of_ble_eq_true rfl, rfl, rfl⟩ hl.1 rfl (Nat.le_of_ble_eq_true rfl) dX5_trayAnswers_1 ⟨Nat.le_of_ble_eq_true rfl, Nat.le_of_ble_eq_true rfl⟩) hS (fun q h => h.elim (hTA q) (fun z => hA q (Nat.le_trans hS.1 z))) (fun r5 H1 locs2 hq6 hS hz3 hfr4 => ?_)
  obtain ⟨rfl, hP⟩ := hq6
  obtain ⟨J7, hJ7, hP⟩ : ∃ X : gJ, X = gu (gu J (h + 5) (trayX (J (h + 5)) (gsw0 st) (gsm st) 4)) (h + 6) (trayX (J (h + 6)) (gsw1 st) (gsn st) 4) ∧ gP G T I X Q O H1 := ⟨_, rfl, hP⟩
  refine W.eq (g2 := F0 m 4 ls []) rfl ?_
  refine lv_iload_n hx hb dX5_trayAnswers_4 rfl (lv_at hl 1 rfl) ?_
  refine lv_if_ne (tgt := 21) hx hb dX5_trayAnswers_5 (by decide) (fun q => absurd (by decide) q) (fun _ => ?_)
  refine lv_aload_n hx hb dX5_trayAnswers_8 rfl (lv_at hl 0 rfl) ?_
  refine lv_iconst (v := nI 0) hx hb dX5_trayAnswers_9 (by decide) ?_
  refine lv_aload_n hx hb dX5_trayAnswers_10 rfl (lv_at hl 0 rfl) ?_
  refine g_get hC hP hm.1 rfl inX5 5 (by decide) q3_11 hm.2.2.2.2.2.2.1.1 dX5_trayAnswers_11 ?_
  refine lv_iconst (v := nI 0) hx hb dX5_trayAnswers_14 (by decide) ?_
  refine g_cp (g_rV (As := [.int (nI 0), .ref (h + 6), .int (nI 0)]) hC hP (c_X5_answersTo_0 l hP (h := h) (a := h + 6) (by first | assumption | omega) (by first | assumption | omega) hm.2.2.2.2.2.2.1.2) hm.1 rfl ⟨q3_135, q3_132, q3_134, qs_33, q1_6⟩ dd_X5_answersTo ⟨Nat.le_of_ble_eq_true rfl, Nat.le_of_ble_eq_true rfl, rfl, rfl⟩ hl.1 rfl (Nat.le_of_ble_eq_true rfl) dX5_trayAnswers_15 ⟨Nat.le_of_ble_eq_true rfl, Nat.le_of_ble_eq_true rfl⟩) ?_
  refine W.eq (g2 := F0 m 18 ls [.int (nI (ansM (gsP0 st) (J7 (h + 6)) (gsm st) (gsn st)))]) rfl ?_
  refine lv_goto (tgt := 31) hx hb dX5_trayAnswers_18 (by decide) ?_
  refine g_retci hC hS ?_ dX5_trayAnswers_31
  refine ⟨?_, ?_⟩
  · rw [tr_0 ⟨hms, hns⟩ hJ7]
  · rw [← hJ7]; exact hP
set_option maxHeartbeats 4000000 in
set_option maxRecDepth 100000 in
theorem c_X5_trayAnswers_1 (l : Launch) {G : gG} {T : gTy} {I : gI} {J : gJ} {Q : gR} {O : gO} {H : Heap} (hP : gP G T I J Q O H) {h : Nat} {st : GS} (hm : isMo T O h) (hs0 : moS I h st) : Met l yX5_trayAnswers (gw yX5_trayAnswers cX5_trayAnswers 2 (some (.int))) ({ frames := 2, cells := 0, slots := 0, locals := 53 } : Room) (gPc G H [.ref h, .int (nI 1)]) (gQc (gF T H) (fun r H1 => r = some (.int (nI ((gsT0 st).2.2.2))) ∧ gP G T I (gu (gu J (h + 5) (trayX (J (h + 5)) (gsw0 st) (gsm st) 4)) (h + 6) (trayX (J (h + 6)) (gsw1 st) (gsn st) 4)) Q O H1)) 0 0 (gF T H) := by
  refine g_met [(0, .ref h), (1, .int (nI 1))] (by decide) rfl (by exact Nat.le_of_ble_eq_true rfl) ?_
  intro p e s m below meth c hC hs ls hl
  have hx := hC.1.1
  have hb := hC.1.2.1
  have hS : va_S (gF T H) s.heap H [] := hs ▸ va_S.rf
  have hTA : ∀ q, (T q).1 ≠ 0 → gF T H q := fun q h => Or.inl h
  have hA : ∀ q, s.heap.size ≤ q → gF T H q := fun q h => Or.inr (hs ▸ h)
  generalize hAe : gF T H = A at hS hTA hA ⊢
  have hms := hs0.1
  have hns := hs0.2.1
  refine lv_aload_n hx hb dX5_trayAnswers_0 rfl (lv_at hl 0 rfl) ?_
  refine g_cc (g_rV (As := []) hC hP (c_X5_showTray l hP (h := h) (by first | assumption | omega) (by first | assumption | omega)) hm.1 rfl ⟨q3_116, q3_113, q3_115, qs_30, q1_6⟩ dd_X5_showTray ⟨Nat.le_of_ble_eq_true rfl, Nat.le_of_ble_eq_true rfl, rfl, rfl⟩ hl.1 rfl (Nat.le_of_ble_eq_true rfl) dX5_trayAnswers_1 ⟨Nat.le_of_ble_eq_true rfl, Nat.le_of_ble_eq_true rfl⟩) hS (fun q h => h.elim (hTA q) (fun z => hA q (Nat.le_trans hS.1 z))) (fun r5 H1 locs2 hq6 hS hz3 hfr4 => ?_)
  obtain ⟨rfl, hP⟩ := hq6
  obtain ⟨J7, hJ7, hP⟩ : ∃ X : gJ, X = gu (gu J (h + 5) (trayX (J (h + 5)) (gsw0 st) (gsm st) 4)) (h + 6) (trayX (J (h + 6)) (gsw1 st) (gsn st) 4) ∧ gP G T I X Q O H1 := ⟨_, rfl, hP⟩
  refine W.eq (g2 := F0 m 4 ls []) rfl ?_
  refine lv_iload_n hx hb dX5_trayAnswers_4 rfl (lv_at hl 1 rfl) ?_
  refine lv_if_ne (tgt := 21) hx hb dX5_trayAnswers_5 (by decide) (fun _ => ?_) (fun q => absurd q (by decide))
  refine lv_aload_n hx hb dX5_trayAnswers_21 rfl (lv_at hl 0 rfl) ?_
  refine lv_iconst (v := nI 1) hx hb dX5_trayAnswers_22 (by decide) ?_
  refine lv_aload_n hx hb dX5_trayAnswers_23 rfl (lv_at hl 0 rfl) ?_
  refine g_get hC hP hm.1 rfl inX5 4 (by decide) q3_10 hm.2.2.2.2.2.1.1 dX5_trayAnswers_24 ?_
  refine lv_iconst (v := nI 0) hx hb dX5_trayAnswers_27 (by decide) ?_
  refine g_cp (g_rV (As := [.int (nI 1), .ref (h + 5), .int (nI 0)]) hC hP (c_X5_answersTo_1 l hP (h := h) (a := h + 5) (by first | assumption | omega) (by first | assumption | omega) hm.2.2.2.2.2.1.2) hm.1 rfl ⟨q3_135, q3_132, q3_134, qs_33, q1_6⟩ dd_X5_answersTo ⟨Nat.le_of_ble_eq_true rfl, Nat.le_of_ble_eq_true rfl, rfl, rfl⟩ hl.1 rfl (Nat.le_of_ble_eq_true rfl) dX5_trayAnswers_28 ⟨Nat.le_of_ble_eq_true rfl, Nat.le_of_ble_eq_true rfl⟩) ?_
  refine W.eq (g2 := F0 m 31 ls [.int (nI (ansM (gsP1 st) (J7 (h + 5)) (gsn st) (gsm st)))]) rfl ?_
  refine g_retci hC hS ?_ dX5_trayAnswers_31
  refine ⟨?_, ?_⟩
  · rw [tr_1 ⟨hms, hns⟩ hJ7]
  · rw [← hJ7]; exact hP
/-! sums of weights -/
def wOK (w : Nat → Int32) : Prop := ∀ j, j < 4 → 0 ≤ (w j).toInt ∧ (w j).toInt ≤ 99
def wSI (w : Nat → Int32) : Nat → Int
  | 0 => 0
  | k + 1 => wSI w k + (w k).toInt
theorem wSI_b {w : Nat → Int32} (hw : wOK w) : ∀ k, k ≤ 4 → 0 ≤ wSI w k ∧ wSI w k ≤ 99 * k
  | 0, _ => ⟨Int.le_refl 0, Int.le_refl 0⟩
  | k + 1, h => by
    have a := wSI_b hw k (by omega)
    have b := hw k (by omega)
    unfold wSI
    omega
theorem sWm_I {w : Nat → Int32} (hw : wOK w) : ∀ k, k ≤ 4 → (sWm w k).toInt = wSI w k
  | 0, _ => by show (0 : Int32).toInt = 0; decide
  | k + 1, h => by
    have a := wSI_b hw k (by omega)
    have b := hw k (by omega)
    unfold sWm wSI
    rw [Int32.toInt_add, sWm_I hw k (by omega)]
    exact Int.bmod_eq_of_le (by omega) (by omega)
theorem tsum_I {w : Nat → Int32} {ch : Nat} (hw : wOK w) : ∀ k, k ≤ 4 → (tsum (twS w ch) k).toInt = wSI w (min k ch)
  | 0, _ => by rw [Nat.zero_min]; show (0 : Int64).toInt = 0; decide
  | k + 1, h => by
    have i := tsum_I (ch := ch) hw k (by omega)
    have b := hw k (by omega)
    unfold tsum
    rw [Int64.toInt_add, i]
    unfold twS
    by_cases c : k < ch
    · rw [if_pos c, Nat.min_eq_left (by omega), Nat.min_eq_left (by omega), Int32.toInt_toInt64]
      have a := wSI_b hw k (by omega)
      show Int.bmod (wSI w k + (w k).toInt) (2 ^ 64) = wSI w k + (w k).toInt
      exact Int.bmod_eq_of_le (by omega) (by omega)
    · rw [if_neg c, Nat.min_eq_right (by omega), Nat.min_eq_right (by omega), i64_20.2.2, Int.add_zero]
      have a := wSI_b hw ch (by omega)
      exact Int.bmod_eq_of_le (by omega) (by omega)
theorem tot_eq {w : Nat → Int32} {ch : Nat} (hw : wOK w) (hc : ch ≤ 4) : tsum (twS w ch) 4 = (sWm w ch).toInt64 := by
  apply Int64.toInt_inj.mp
  rw [tsum_I hw 4 (Nat.le_refl 4), Int32.toInt_toInt64, sWm_I hw ch hc, Nat.min_eq_right hc]
theorem tot_0 {w : Nat → Int32} {ch : Nat} (hw : wOK w) (hc : ch ≤ 4) : tsum (twS w ch) 4 = 0 ↔ sWm w ch = 0 := by
  rw [tot_eq hw hc, ← Int64.toInt_inj, ← Int32.toInt_inj, Int32.toInt_toInt64, i64_20.2.2, i32_20.2.2.1]
set_option maxHeartbeats 4000000 in
set_option maxRecDepth 100000 in
theorem c_X5_answers (l : Launch) {G : gG} {T : gTy} {I : gI} {J : gJ} {Q : gR} {O : gO} {H : Heap} (hP : gP G T I J Q O H) {h : Nat} {st : GS} {q : Int32} (hm : isMo T O h) (hs0 : moS I h st) (hw0 : wOK (gsw0 st)) (hw1 : wOK (gsw1 st)) : Met l yX5_answers (gw yX5_answers cX5_answers 2 (some (.int))) ({ frames := 3, cells := 0, slots := 0, locals := 74 } : Room) (gPc G H [.ref h, .int q]) (gQc (gF T H) (fun x H1 => rAnswers st (fun x1 s1 => x = some (.int x1) ∧ moR G T h s1 H1) q)) 0 0 (gF T H) := by
  refine g_met [(0, .ref h), (1, .int q)] (by decide) rfl (by exact Nat.le_of_ble_eq_true rfl) ?_
  intro p e s m below meth c hC hs ls hl
  have hx := hC.1.1
  have hb := hC.1.2.1
  have hS : va_S (gF T H) s.heap H [] := hs ▸ va_S.rf
  have hTA : ∀ q, (T q).1 ≠ 0 → gF T H q := fun q h => Or.inl h
  have hA : ∀ q, s.heap.size ≤ q → gF T H q := fun q h => Or.inr (hs ▸ h)
  generalize hAe : gF T H = A at hS hTA hA ⊢
  have hms := hs0.1
  have hns := hs0.2.1
  refine lv_iload_n hx hb dX5_answers_0 rfl (lv_at hl 1 rfl) ?_
  refine g_cp (g_rS (As := [.int q]) hC (c_X5_isWho l (q := q)) ⟨q3_78, q3_76, q3_77, q1_6⟩ dd_X5_isWho ⟨Nat.le_of_ble_eq_true rfl, Nat.le_of_ble_eq_true rfl, rfl, rfl⟩ hl.1 rfl (Nat.le_of_ble_eq_true rfl) dX5_answers_1 ⟨Nat.le_of_ble_eq_true rfl, Nat.le_of_ble_eq_true rfl⟩) ?_
  refine W.eq (g2 := F0 m 4 ls [.int (gb (isW q))]) rfl ?_
  refine lv_if_ne (tgt := 13) hx hb dX5_answers_4 (by decide) (fun c4 => ?_) (fun c4 => ?_)
  · have c4 := gb_t c4
    rcases isW_c c4 with rfl | rfl
    · refine lv_aload_n hx hb dX5_answers_13 rfl (lv_at hl 0 rfl) ?_
      refine lv_iconst (v := nI 1) hx hb dX5_answers_14 (by decide) ?_
      refine lv_iload_n hx hb dX5_answers_15 rfl (lv_at hl 1 rfl) ?_
      refine lv_isub hx hb dX5_answers_16 ?_
      refine g_topi (y := nI 1) (by decide) ?_
      refine g_cp (g_rV (As := [.int (nI 1)]) hC hP (c_X5_sumOf_1 l hP (h := h) (by first | assumption | omega) (by first | assumption | omega)) hm.1 rfl ⟨q3_112, q3_109, q3_111, qs_29, q1_6⟩ dd_X5_sumOf ⟨Nat.le_of_ble_eq_true rfl, Nat.le_of_ble_eq_true rfl, rfl, rfl⟩ hl.1 rfl (Nat.le_of_ble_eq_true rfl) dX5_answers_17 ⟨Nat.le_of_ble_eq_true rfl, Nat.le_of_ble_eq_true rfl⟩) ?_
      refine W.eq (g2 := F0 m 20 ls [.int (sWm (gsw1 st) (gsn st))]) rfl ?_
      refine lv_if_ne (tgt := 32) hx hb dX5_answers_20 (by decide) (fun c20 => ?_) (fun c20 => ?_)
      · refine lv_aload_n hx hb dX5_answers_32 rfl (lv_at hl 0 rfl) ?_
        refine lv_iload_n hx hb dX5_answers_33 rfl (lv_at hl 1 rfl) ?_
        refine g_cc (g_rV (As := [.int (nI 0)]) hC hP (c_X5_trayAnswers_0 l hP (h := h) (by first | assumption | omega) (by first | assumption | omega)) hm.1 rfl ⟨q3_131, q3_128, q3_130, qs_32, q1_6⟩ dd_X5_trayAnswers ⟨Nat.le_of_ble_eq_true rfl, Nat.le_of_ble_eq_true rfl, rfl, rfl⟩ hl.1 rfl (Nat.le_of_ble_eq_true rfl) dX5_answers_34 ⟨Nat.le_of_ble_eq_true rfl, Nat.le_of_ble_eq_true rfl⟩) hS (fun q h => h.elim (hTA q) (fun z => hA q (Nat.le_trans hS.1 z))) (fun r5 H1 locs2 hq6 hS hz3 hfr4 => ?_)
        obtain ⟨rfl, hP⟩ := hq6
        obtain ⟨J7, hJ7, hP⟩ : ∃ J7 : gJ, J7 = gu (gu J (h + 5) (trayX (J (h + 5)) (gsw0 st) (gsm st) 4)) (h + 6) (trayX (J (h + 6)) (gsw1 st) (gsn st) 4) ∧ gP G T I J7 Q O H1 := ⟨_, rfl, hP⟩
        refine W.eq (g2 := F0 m 37 ls [.int (nI ((gsT1 st).2.2.2))]) rfl ?_
        refine g_retci hC hS ?_ dX5_answers_37
        exact Or.inr (Or.inl ⟨rfl, Or.inr ⟨mt (tot_0 hw1 (by omega)).mp c20, rfl, mo_same hm hs0 hP⟩⟩)
      · refine lv_aload_n hx hb dX5_answers_23 rfl (lv_at hl 0 rfl) ?_
        refine lv_bipush (v := (-5)) hx hb dX5_answers_24 (by decide) ?_
        refine g_cc (g_rV (As := [.int (-5 : Int32)]) hC hP (c_X5_refuse l hP (h := h) (q := (-5 : Int32)) (j := 5) (by first | assumption | omega) (by decide) (by omega)) hm.1 rfl ⟨q3_71, q3_68, q3_70, qs_25, q1_6⟩ dd_X5_refuse ⟨Nat.le_of_ble_eq_true rfl, Nat.le_of_ble_eq_true rfl, rfl, rfl⟩ hl.1 rfl (Nat.le_of_ble_eq_true rfl) dX5_answers_26 ⟨Nat.le_of_ble_eq_true rfl, Nat.le_of_ble_eq_true rfl⟩) hS (fun q h => h.elim (hTA q) (fun z => hA q (Nat.le_trans hS.1 z))) (fun r12 H8 locs9 hq13 hS hz10 hfr11 => ?_)
        obtain ⟨rfl, hP⟩ := hq13
        obtain ⟨I14, hI14, hP⟩ : ∃ I14 : gI, I14 = au I (h + 4) 5 (I (h + 4) 5 + 1) ∧ gP G T I14 J Q O H8 := ⟨_, rfl, hP⟩
        refine W.eq (g2 := F0 m 29 ls [.int (-5 : Int32)]) rfl ?_
        refine lv_goto (tgt := 37) hx hb dX5_answers_29 (by decide) ?_
        refine g_retci hC hS ?_ dX5_answers_37
        exact Or.inr (Or.inl ⟨rfl, Or.inl ⟨(tot_0 hw1 (by omega)).mpr c20, rfl, mo_ref hm hs0 (j := 5) (by decide) hI14 hP⟩⟩)
    · refine lv_aload_n hx hb dX5_answers_13 rfl (lv_at hl 0 rfl) ?_
      refine lv_iconst (v := nI 1) hx hb dX5_answers_14 (by decide) ?_
      refine lv_iload_n hx hb dX5_answers_15 rfl (lv_at hl 1 rfl) ?_
      refine lv_isub hx hb dX5_answers_16 ?_
      refine g_topi (y := nI 0) (by decide) ?_
      refine g_cp (g_rV (As := [.int (nI 0)]) hC hP (c_X5_sumOf_0 l hP (h := h) (by first | assumption | omega) (by first | assumption | omega)) hm.1 rfl ⟨q3_112, q3_109, q3_111, qs_29, q1_6⟩ dd_X5_sumOf ⟨Nat.le_of_ble_eq_true rfl, Nat.le_of_ble_eq_true rfl, rfl, rfl⟩ hl.1 rfl (Nat.le_of_ble_eq_true rfl) dX5_answers_17 ⟨Nat.le_of_ble_eq_true rfl, Nat.le_of_ble_eq_true rfl⟩) ?_
      refine W.eq (g2 := F0 m 20 ls [.int (sWm (gsw0 st) (gsm st))]) rfl ?_
      refine lv_if_ne (tgt := 32) hx hb dX5_answers_20 (by decide) (fun c20 => ?_) (fun c20 => ?_)
      · refine lv_aload_n hx hb dX5_answers_32 rfl (lv_at hl 0 rfl) ?_
        refine lv_iload_n hx hb dX5_answers_33 rfl (lv_at hl 1 rfl) ?_
        refine g_cc (g_rV (As := [.int (nI 1)]) hC hP (c_X5_trayAnswers_1 l hP (h := h) (by first | assumption | omega) (by first | assumption | omega)) hm.1 rfl ⟨q3_131, q3_128, q3_130, qs_32, q1_6⟩ dd_X5_trayAnswers ⟨Nat.le_of_ble_eq_true rfl, Nat.le_of_ble_eq_true rfl, rfl, rfl⟩ hl.1 rfl (Nat.le_of_ble_eq_true rfl) dX5_answers_34 ⟨Nat.le_of_ble_eq_true rfl, Nat.le_of_ble_eq_true rfl⟩) hS (fun q h => h.elim (hTA q) (fun z => hA q (Nat.le_trans hS.1 z))) (fun r19 H15 locs16 hq20 hS hz17 hfr18 => ?_)
        obtain ⟨rfl, hP⟩ := hq20
        obtain ⟨J21, hJ21, hP⟩ : ∃ J21 : gJ, J21 = gu (gu J (h + 5) (trayX (J (h + 5)) (gsw0 st) (gsm st) 4)) (h + 6) (trayX (J (h + 6)) (gsw1 st) (gsn st) 4) ∧ gP G T I J21 Q O H15 := ⟨_, rfl, hP⟩
        refine W.eq (g2 := F0 m 37 ls [.int (nI ((gsT0 st).2.2.2))]) rfl ?_
        refine g_retci hC hS ?_ dX5_answers_37
        exact Or.inr (Or.inr ⟨rfl, Or.inr ⟨mt (tot_0 hw0 (by omega)).mp c20, rfl, mo_same hm hs0 hP⟩⟩)
      · refine lv_aload_n hx hb dX5_answers_23 rfl (lv_at hl 0 rfl) ?_
        refine lv_bipush (v := (-5)) hx hb dX5_answers_24 (by decide) ?_
        refine g_cc (g_rV (As := [.int (-5 : Int32)]) hC hP (c_X5_refuse l hP (h := h) (q := (-5 : Int32)) (j := 5) (by first | assumption | omega) (by decide) (by omega)) hm.1 rfl ⟨q3_71, q3_68, q3_70, qs_25, q1_6⟩ dd_X5_refuse ⟨Nat.le_of_ble_eq_true rfl, Nat.le_of_ble_eq_true rfl, rfl, rfl⟩ hl.1 rfl (Nat.le_of_ble_eq_true rfl) dX5_answers_26 ⟨Nat.le_of_ble_eq_true rfl, Nat.le_of_ble_eq_true rfl⟩) hS (fun q h => h.elim (hTA q) (fun z => hA q (Nat.le_trans hS.1 z))) (fun r26 H22 locs23 hq27 hS hz24 hfr25 => ?_)
        obtain ⟨rfl, hP⟩ := hq27
        obtain ⟨I28, hI28, hP⟩ : ∃ I28 : gI, I28 = au I (h + 4) 5 (I (h + 4) 5 + 1) ∧ gP G T I28 J Q O H22 := ⟨_, rfl, hP⟩
        refine W.eq (g2 := F0 m 29 ls [.int (-5 : Int32)]) rfl ?_
        refine lv_goto (tgt := 37) hx hb dX5_answers_29 (by decide) ?_
        refine g_retci hC hS ?_ dX5_answers_37
        exact Or.inr (Or.inr ⟨rfl, Or.inl ⟨(tot_0 hw0 (by omega)).mpr c20, rfl, mo_ref hm hs0 (j := 5) (by decide) hI28 hP⟩⟩)
  · have c4 := gb_f c4
    refine lv_aload_n hx hb dX5_answers_7 rfl (lv_at hl 0 rfl) ?_
    refine lv_iconst (v := (-1)) hx hb dX5_answers_8 (by decide) ?_
    refine g_cc (g_rV (As := [.int (-1 : Int32)]) hC hP (c_X5_refuse l hP (h := h) (q := (-1 : Int32)) (j := 1) (by first | assumption | omega) (by decide) (by omega)) hm.1 rfl ⟨q3_71, q3_68, q3_70, qs_25, q1_6⟩ dd_X5_refuse ⟨Nat.le_of_ble_eq_true rfl, Nat.le_of_ble_eq_true rfl, rfl, rfl⟩ hl.1 rfl (Nat.le_of_ble_eq_true rfl) dX5_answers_9 ⟨Nat.le_of_ble_eq_true rfl, Nat.le_of_ble_eq_true rfl⟩) hS (fun q h => h.elim (hTA q) (fun z => hA q (Nat.le_trans hS.1 z))) (fun r33 H29 locs30 hq34 hS hz31 hfr32 => ?_)
    obtain ⟨rfl, hP⟩ := hq34
    obtain ⟨I35, hI35, hP⟩ : ∃ I35 : gI, I35 = au I (h + 4) 1 (I (h + 4) 1 + 1) ∧ gP G T I35 J Q O H29 := ⟨_, rfl, hP⟩
    refine W.eq (g2 := F0 m 12 ls [.int (-1 : Int32)]) rfl ?_
    refine g_retci hC hS ?_ dX5_answers_12
    exact Or.inl ⟨c4, rfl, mo_ref hm hs0 (j := 1) (by decide) hI35 hP⟩
