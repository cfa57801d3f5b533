/-! ===== all searches ===== -/
def sT (P : Nat → Int32) (ch u : Nat) : Nat → CL → CL
  | 0, c => c
  | i + 1, c => if popc u = popc (i + 1) then stepC P ch (sT P ch u i c) u (i + 1) else sT P ch u i c
def c00 : CL := (0, fun _ => (fun _ => 0, 0, 0, 0))
def sU (P : Nat → Int32) (ch m : Nat) : Nat → CL
  | 0 => c00
  | i + 1 => sT P ch (i + 1) m (sU P ch m i)
def nT (u : Nat) : Nat → Nat
  | 0 => 0
  | i + 1 => nT u i + (if popc u = popc (i + 1) then 1 else 0)
def nU (m : Nat) : Nat → Nat
  | 0 => 0
  | i + 1 => nU m i + nT (i + 1) m
theorem insC_le (v : MixV) (c : CL) : (insC v c).1 ≤ c.1 + 1 := by
  unfold insC
  split
  · omega
  · exact Nat.le_refl _
theorem stepC_le (P : Nat → Int32) (ch : Nat) (c : CL) (u t : Nat) : (stepC P ch c u t).1 ≤ c.1 + 1 := by
  unfold stepC
  split
  · omega
  · exact insC_le _ _
theorem sT_le (P : Nat → Int32) (ch u : Nat) (c : CL) : ∀ i, (sT P ch u i c).1 ≤ c.1 + nT u i
  | 0 => Nat.le_refl _
  | i + 1 => by
    have h := sT_le P ch u c i
    unfold sT nT
    split
    · have := stepC_le P ch (sT P ch u i c) u (i + 1)
      omega
    · omega
theorem sU_le (P : Nat → Int32) (ch m : Nat) : ∀ i, (sU P ch m i).1 ≤ nU m i
  | 0 => Nat.le_refl _
  | i + 1 => by
    have h := sU_le P ch m i
    have h2 := sT_le P ch (i + 1) (sU P ch m i) m
    unfold sU nU
    omega
theorem n69 {m i j : Nat} (hm : m < 16) (hi : i < 15) (hj : j < m) (h : popc (i + 1) = popc (j + 1)) : nU m i + nT (i + 1) j < 69 := by
  have q : ∀ m, m < 16 → ∀ i, i < 15 → ∀ j, j < m → popc (i + 1) = popc (j + 1) → nU m i + nT (i + 1) j < 69 := by decide +kernel
  exact q m hm i hi j hj h
theorem sU_69 {P : Nat → Int32} {ch m i j : Nat} (hm : m < 16) (hi : i < 15) (hj : j < m) (h : popc (i + 1) = popc (j + 1)) : (sT P ch (i + 1) j (sU P ch m i)).1 < 69 := by
  have h1 := sT_le P ch (i + 1) (sU P ch m i) j
  have h2 := sU_le P ch m i
  have h3 := n69 hm hi hj h
  omega
theorem isPl_ext {T T2 : gTy} {O O2 : gO} {b ch : Nat} (h : isPl T O b ch) (hT : ∀ q, (T q).1 ≠ 0 → T2 q = T q) (hO : O2 b = O b) : isPl T2 O2 b ch := by
  obtain ⟨a1, a2, a3, a4, a5, a6, a7, a8, a9⟩ := h
  exact ⟨by rw [hT b (by rw [a1]; simp)]; exact a1, by rw [hO]; exact a2, by rw [hO]; exact a3, by rw [hO]; exact a4, by rw [hO]; exact a5, by rw [hO]; exact a6, by rw [hT _ (by rw [a7]; simp)]; exact a7, by rw [hT _ (by rw [a8]; simp)]; exact a8, a9⟩
theorem coS_mono {T : gTy} {J : gJ} {Q : gR} {O : gO} {k : Nat} {c : CL} {S S' : Nat → Prop} (h : coS T J Q O k c S) (hS : ∀ q, S q → S' q) (hT : ∀ q, S' q → (T q).1 ≠ 0) : coS T J Q O k c S' := by
  obtain ⟨fill, sp, ad, a1, a2, a3, a4, a5, a6⟩ := h
  exact ⟨fill, sp, ad, a1, a2, hT, ⟨hS _ a4.1, hS _ a4.2.1, hS _ a4.2.2.1, hS _ a4.2.2.2.1, hS _ a4.2.2.2.2⟩, ⟨hS _ a5.1, hS _ a5.2⟩, fun j hj => ⟨hS _ (a6 j hj).1, hS _ (a6 j hj).2⟩⟩
theorem coS_zero {T : gTy} {J : gJ} {Q : gR} {O O' : gO} {k : Nat} {c : CL} {S : Nat → Prop} (hco : coG T Q O k) (h : coS T J Q O k c S) (hO : O' = au O k 0 (.int (nI 0))) : coS T J Q O' k c00 S := by
  obtain ⟨fill, sp, ad, ⟨g0, g2, gc, gf, gQ, gm, ga, gi⟩, a2, a3⟩ := h
  have nk : ∀ a, isMx T O a → isMx T O' a := fun a ha => isMx_au ha hO (Or.inl (ne_of_T ha.1 hco.1 (by decide)))
  exact ⟨fill, sp, ad, ⟨by rw [hO, au_row, gu_eq]; rfl, by rw [hO, au_row, gu_ne _ _ (by decide)]; exact g2, Nat.zero_le _, gf, gQ, nk _ gm, fun j hj => ⟨nk _ (ga j hj).1, (ga j hj).2⟩, gi⟩, fun j hj => absurd hj (Nat.not_lt_zero j), a3⟩
/-- where the searches stand: the memory now beside that at the beginning -/
def sI (T : gTy) (J : gJ) (Q : gR) (O : gO) (n k b ch : Nat) (S : Nat → Prop) (c : CL) (T2 : gTy) (J2 : gJ) (Q2 : gR) (O2 : gO) : Prop := tExt T T2 n ∧ (∀ q, (T q).1 ≠ 0 → ¬ S q → J2 q = J q ∧ Q2 q = Q q ∧ O2 q = O q) ∧ coG T2 Q2 O2 k ∧ coS T2 J2 Q2 O2 k c (sGrow S T2 n) ∧ isPl T2 O2 b ch
theorem sI_step {T T2 T3 : gTy} {J J2 J3 : gJ} {Q Q2 Q3 : gR} {O O2 O3 : gO} {n n2 k b ch : Nat} {S : Nat → Prop} {c c' : CL} (h : sI T J Q O n k b ch S c T2 J2 Q2 O2) (hn : n ≤ n2) (hTb : (T b).1 ≠ 0) (hb : ¬ S b) (hbn : b < n) (hE : tExt T2 T3 n2) (hF : ∀ q, (T2 q).1 ≠ 0 → ¬ sGrow S T2 n q → J3 q = J2 q ∧ Q3 q = Q2 q ∧ O3 q = O2 q) (hco : coG T3 Q3 O3 k) (hcs : coS T3 J3 Q3 O3 k c' (sGrow (sGrow S T2 n) T3 n2)) (hlt : ∀ q, (T q).1 ≠ 0 → q < n) : sI T J Q O n k b ch S c' T3 J3 Q3 O3 := by
  obtain ⟨a1, a2, a3, a4, a5⟩ := h
  have t3 : ∀ q, (T q).1 ≠ 0 → T3 q = T q := fun q hq => (hE.1 q (by rw [a1.1 q hq]; exact hq)).trans (a1.1 q hq)
  have ng : ∀ q, (T q).1 ≠ 0 → ¬ S q → ¬ sGrow S T2 n q := fun q hq hs h => h.elim hs (fun z => by have := hlt q hq; omega)
  refine ⟨⟨t3, fun q hq => ?_⟩, fun q hq hs => ?_, hco, coS_mono hcs (fun q hq => ?_) (fun q hq => ?_), isPl_ext a5 hE.1 (hF b (by rw [a1.1 b hTb]; exact hTb) (ng b hTb hb)).2.2⟩
  · rcases hE.2 q hq with h | h
    · exact a1.2 q h
    · exact Or.inr (by omega)
  · obtain ⟨x1, x2, x3⟩ := a2 q hq hs
    obtain ⟨y1, y2, y3⟩ := hF q (by rw [a1.1 q hq]; exact hq) (ng q hq hs)
    exact ⟨y1.trans x1, y2.trans x2, y3.trans x3⟩
  · rcases hq with (h | ⟨h1, h2⟩) | ⟨h1, h2⟩
    · exact Or.inl h
    · exact Or.inr ⟨h1, by rw [hE.1 q h2]; exact h2⟩
    · exact Or.inr ⟨by omega, h2⟩
  · rcases hq with h | h
    · obtain ⟨fill, sp, ad, b1, b2, b3, -⟩ := hcs
      exact b3 q (Or.inl (Or.inl h))
    · exact h.2
set_option maxHeartbeats 4000000 in
set_option maxRecDepth 100000 in
theorem c_X0_searchAll (l : Launch) {G : gG} {T : gTy} {I : gI} {J : gJ} {Q : gR} {O : gO} {H : Heap} (hP : gP G T I J Q O H) {k b ch ob : Nat} {cl : CL} {Sx : Nat → Prop} (hco : coG T Q O k) (hcs : coS T J Q O k cl Sx) (hpl : isPl T O b ch) (hbS : ¬ Sx b) (hob : ob < 16) : Met l yX0_searchAll (gw yX0_searchAll cX0_searchAll 5 (none)) ({ frames := 5, cells := 450, slots := 1800, locals := 110 } : Room) (gPc G H [.ref k, .int (nI ob), .ref b]) (gQc (gF T H) (fun r H1 => r = none ∧ searchPost G T I J Q O H.size k (sU (I (b + 9)) ch (2 ^ ch - 1) ob) Sx H1)) 450 1800 (gF T H) := by
  refine g_met [(0, .ref k), (1, .int (nI ob)), (2, .ref b)] (by decide) rfl (by exact Nat.le_of_ble_eq_true rfl) ?_
  intro p e s m below meth c hC hs ls hl
  have hx := hC.1.1
  have hb := hC.1.2.1
  have hS : va_S (gF T H) s.heap H [] := hs ▸ va_S.rf
  have hTA : ∀ q, (T q).1 ≠ 0 → gF T H q := fun q h => Or.inl h
  have hA : ∀ q, s.heap.size ≤ q → gF T H q := fun q h => Or.inr (hs ▸ h)
  generalize hAe : gF T H = A at hS hTA hA ⊢
  have hpl_lo := hpl.2.2.2.2.2.2.2.2.1
  have hpl_hi := hpl.2.2.2.2.2.2.2.2.2
  have hp1 := pow1_lt hpl_hi
  have hTb : (T b).1 ≠ 0 := by rw [hpl.1]; simp
  have hbn : b < H.size := hP.lt hTb
  have hlt : ∀ q, (T q).1 ≠ 0 → q < H.size := fun q hq => hP.lt hq
  have nbk : b ≠ k := ne_of_T hpl.1 hco.1 (by decide)
  have hSa : ∀ q, Sx q → (T q).1 ≠ 0 := by obtain ⟨_, _, _, _, _, h, _⟩ := hcs; exact h
  have hSk : Sx k := by obtain ⟨_, _, _, _, _, _, h, _⟩ := hcs; exact h.1
  refine lv_aload_n hx hb dX0_searchAll_0 rfl (lv_at hl 0 rfl) ?_
  refine lv_iconst (v := nI 0) hx hb dX0_searchAll_1 (by decide) ?_
  refine g_put hC hP hS hTA hco.1 rfl inX0 tyX0 tyX0_ok nmX0 0 (by decide) q1_61 rfl (ty := tyX0 0) (by decide) rfl rfl dX0_searchAll_2 (fun H1 locs2 hP hS hz4 => ?_)
  obtain ⟨O3, hO3, hP⟩ : ∃ X : gO, X = au O k 0 (.int (nI 0)) ∧ gP G T I J Q X H1 := ⟨_, rfl, hP⟩
  refine lv_iconst (v := nI 1) hx hb dX0_searchAll_5 (by decide) ?_
  refine lv_istore_n (lv' := [(3, .int (nI 1)), (0, .ref k), (1, .int (nI ob)), (2, .ref b)]) hx hb dX0_searchAll_6 rfl hl (by decide) rfl (fun ls hl => ?_)
  have L7 : ∀ (n7 : Nat) (i : Nat) (T2 : gTy) (J2 : gJ) (Q2 : gR) (O2 : gO), 17 ≤ n7 + i → (i ≤ ob) → (sI T J Q O H.size k b ch Sx (sU (I (b + 9)) ch (2 ^ ch - 1) i) T2 J2 Q2 O2) → (∀ q, (T2 q).1 ≠ 0 → A q) → ∀ (Hl : Heap) (lcl : List Loc), gP G T2 I J2 Q2 O2 Hl → va_S A s.heap Hl lcl → ∀ ls : Array Slot, lv_has ls 5 [(0, .ref k), (1, .int (nI ob)), (2, .ref b), (3, .int (nI (i + 1)))] → W p l e ({ frames := 5, cells := 450, slots := 1800, locals := 110 } : Room) s m [.ref k, .int (nI ob), .ref b].toArray below meth c Hl lcl (30 * i) (120 * i) (MQ below (gQc A (fun r H1 => r = none ∧ searchPost G T I J Q O H.size k (sU (I (b + 9)) ch (2 ^ ch - 1) ob) Sx H1)) [.ref k, .int (nI ob), .ref b].toArray s 450 1800 A) (F0 m 7 ls []) := by
    intro n7
    induction n7 with
    | zero => intro i T2 J2 Q2 O2 hn7 hi hI hTA; exact absurd hn7 (by omega)
    | succ n7 ih7 =>
      intro i T2 J2 Q2 O2 hn7 hi hI hTA Hl lcl hP hS ls hl
      refine lv_iload_n hx hb dX0_searchAll_7 rfl (lv_at hl 3 rfl) ?_
      refine lv_iload_n hx hb dX0_searchAll_8 rfl (lv_at hl 1 rfl) ?_
      refine lv_icmp_gt (tgt := 56) hx hb dX0_searchAll_9 (by decide) (fun c9 => ?_) (fun c9 => ?_)
      · have c9 := (nI_ltI (by omega) (by omega)).mp c9
        refine W.widen (k := 450) (n := 1800) (by omega) (by omega) ?_
        refine g_retcv hC hS ?_ dX0_searchAll_56
        refine ⟨rfl, T2, J2, Q2, O2, hP, hI.1, hI.2.1, hI.2.2.1, ?_⟩
        have e : i = ob := by omega
        rw [← e]
        exact hI.2.2.2.1
      · have c9 := mt (nI_ltI (by omega) (by omega)).mpr c9
        refine lv_iconst (v := nI 1) hx hb dX0_searchAll_12 (by decide) ?_
        refine lv_istore (lv' := [(4, .int (nI 1)), (0, .ref k), (1, .int (nI ob)), (2, .ref b), (3, .int (nI (i + 1)))]) hx hb dX0_searchAll_13 hl (by decide) rfl (fun ls hl => ?_)
        have L15 : ∀ (n15 : Nat) (j : Nat) (T2 : gTy) (J2 : gJ) (Q2 : gR) (O2 : gO), 17 ≤ n15 + j → (j ≤ 2 ^ ch - 1) → (sI T J Q O H.size k b ch Sx (sT (I (b + 9)) ch (i + 1) j (sU (I (b + 9)) ch (2 ^ ch - 1) i)) T2 J2 Q2 O2) → (∀ q, (T2 q).1 ≠ 0 → A q) → ∀ (Hl : Heap) (lcl : List Loc), gP G T2 I J2 Q2 O2 Hl → va_S A s.heap Hl lcl → ∀ ls : Array Slot, lv_has ls 5 [(0, .ref k), (1, .int (nI ob)), (2, .ref b), (3, .int (nI (i + 1))), (4, .int (nI (j + 1)))] → W p l e ({ frames := 5, cells := 450, slots := 1800, locals := 110 } : Room) s m [.ref k, .int (nI ob), .ref b].toArray below meth c Hl lcl (30 * i + 2 * j) (120 * i + 8 * j) (MQ below (gQc A (fun r H1 => r = none ∧ searchPost G T I J Q O H.size k (sU (I (b + 9)) ch (2 ^ ch - 1) ob) Sx H1)) [.ref k, .int (nI ob), .ref b].toArray s 450 1800 A) (F0 m 15 ls []) := by
          intro n15
          induction n15 with
          | zero => intro j T2 J2 Q2 O2 hn15 hj hI hTA; exact absurd hn15 (by omega)
          | succ n15 ih15 =>
            intro j T2 J2 Q2 O2 hn15 hj hI hTA Hl lcl hP hS ls hl
            refine lv_iload hx hb dX0_searchAll_15 (lv_at hl 4 rfl) ?_
            refine lv_aload_n hx hb dX0_searchAll_17 rfl (lv_at hl 2 rfl) ?_
            refine g_cp (g_rV (As := []) hC hP (c_X3_allBits l hP (b := b) (ch := ch) hI.2.2.2.2) hI.2.2.2.2.1 rfl ⟨q2_19, q2_89, q2_17, q2_18, q1_2⟩ dd_X3_allBits ⟨Nat.le_of_ble_eq_true rfl, Nat.le_of_ble_eq_true rfl, rfl, rfl⟩ hl.1 rfl (Nat.le_of_ble_eq_true rfl) dX0_searchAll_18 ⟨by show _ ≤ 450; omega, by show _ ≤ 1800; omega⟩) ?_
            refine W.eq (g2 := F0 m 21 ls [.int (nI (2 ^ ch - 1)), .int (nI (j + 1))]) rfl ?_
            refine lv_icmp_gt (tgt := 50) hx hb dX0_searchAll_21 (by decide) (fun c21 => ?_) (fun c21 => ?_)
            · have c21 := (nI_ltI (by omega) (by omega)).mp c21
              refine lv_iinc (v := nI (i + 1 + 1)) (lv' := [(3, .int (nI (i + 1 + 1))), (0, .ref k), (1, .int (nI ob)), (2, .ref b), (4, .int (nI (j + 1)))]) hx hb dX0_searchAll_50 hl (k := 3) rfl (nI_inc _) (by decide) rfl (fun ls hl => ?_)
              refine lv_goto (tgt := 7) hx hb dX0_searchAll_53 (by decide) ?_
              refine W.widen (k := 30 * (i + 1)) (n := 120 * (i + 1)) (by omega) (by omega) ?_
              exact ih7 (i + 1) T2 J2 Q2 O2 (by omega) (by omega) (by rw [show sU (I (b + 9)) ch (2 ^ ch - 1) (i + 1) = sT (I (b + 9)) ch (i + 1) j (sU (I (b + 9)) ch (2 ^ ch - 1) i) from by rw [show j = 2 ^ ch - 1 from by omega]; rfl]; exact hI) hTA _ _ hP hS ls (lv_sub hl [1, 2, 3, 0] rfl)
            · have c21 := mt (nI_ltI (by omega) (by omega)).mpr c21
              have hpa := popc_1 (u := i + 1) (by omega) (by omega)
              have hpb := popc_1 (u := j + 1) (by omega) (by omega)
              refine lv_iload_n hx hb dX0_searchAll_24 rfl (lv_at hl 3 rfl) ?_
              refine g_cp (g_rS (As := [.int (nI (i + 1))]) hC (c_J6_bitCount_0f7a4 l (u := i + 1) (by first | assumption | omega)) ⟨q2_92, q2_90, q2_91, q1_8⟩ dd_J6_bitCount_0f7a4 ⟨Nat.le_of_ble_eq_true rfl, Nat.le_of_ble_eq_true rfl, rfl, rfl⟩ hl.1 rfl (Nat.le_of_ble_eq_true rfl) dX0_searchAll_25 ⟨by show _ ≤ 450; omega, by show _ ≤ 1800; omega⟩) ?_
              refine W.eq (g2 := F0 m 28 ls [.int (nI (popc (i + 1)))]) rfl ?_
              refine lv_iload hx hb dX0_searchAll_28 (lv_at hl 4 rfl) ?_
              refine g_cp (g_rS (As := [.int (nI (j + 1))]) hC (c_J6_bitCount_0f7a4 l (u := j + 1) (by first | assumption | omega)) ⟨q2_92, q2_90, q2_91, q1_8⟩ dd_J6_bitCount_0f7a4 ⟨Nat.le_of_ble_eq_true rfl, Nat.le_of_ble_eq_true rfl, rfl, rfl⟩ hl.1 rfl (Nat.le_of_ble_eq_true rfl) dX0_searchAll_30 ⟨by show _ ≤ 450; omega, by show _ ≤ 1800; omega⟩) ?_
              refine W.eq (g2 := F0 m 33 ls [.int (nI (popc (j + 1))), .int (nI (popc (i + 1)))]) rfl ?_
              refine lv_icmp_ne (tgt := 44) hx hb dX0_searchAll_33 (by decide) (fun c33 => ?_) (fun c33 => ?_)
              · have c33 := mt (nI_eq (by omega) (by omega)).mpr c33
                refine lv_iinc (v := nI (j + 1 + 1)) (lv' := [(4, .int (nI (j + 1 + 1))), (0, .ref k), (1, .int (nI ob)), (2, .ref b), (3, .int (nI (i + 1)))]) hx hb dX0_searchAll_44 hl (k := 4) rfl (nI_inc _) (by decide) rfl (fun ls hl => ?_)
                refine lv_goto (tgt := 15) hx hb dX0_searchAll_47 (by decide) ?_
                refine W.widen (k := 30 * i + 2 * (j + 1)) (n := 120 * i + 8 * (j + 1)) (by omega) (by omega) ?_
                exact ih15 (j + 1) T2 J2 Q2 O2 (by omega) (by omega) (by first | (rw [show sT (I (b + 9)) ch (i + 1) (j + 1) (sU (I (b + 9)) ch (2 ^ ch - 1) i) = stepC (I (b + 9)) ch (sT (I (b + 9)) ch (i + 1) j (sU (I (b + 9)) ch (2 ^ ch - 1) i)) (i + 1) (j + 1) from if_pos c33]; exact sI_step hI hAs hTb hbS hbn hE3 hF3 hco3 hcs3 hlt) | (rw [show sT (I (b + 9)) ch (i + 1) (j + 1) (sU (I (b + 9)) ch (2 ^ ch - 1) i) = sT (I (b + 9)) ch (i + 1) j (sU (I (b + 9)) ch (2 ^ ch - 1) i) from if_neg c33]; exact hI)) (by first | exact hTA | exact fun q hq => (hE3.2 q hq).elim (hTA q) (fun z => hA q (Nat.le_trans hSo.1 z))) _ _ hP hS ls (lv_sub hl [1, 2, 3, 4, 0] rfl)
              · have c33 := (nI_eq (by omega) (by omega)).mp c33
                have hAs : H.size ≤ Hl.size := by have := hS.1; rw [hs] at this; exact this
                have hSo := hS
                refine lv_aload_n hx hb dX0_searchAll_36 rfl (lv_at hl 0 rfl) ?_
                refine lv_iload_n hx hb dX0_searchAll_37 rfl (lv_at hl 3 rfl) ?_
                refine lv_iload hx hb dX0_searchAll_38 (lv_at hl 4 rfl) ?_
                refine lv_aload_n hx hb dX0_searchAll_40 rfl (lv_at hl 2 rfl) ?_
                refine g_cc (g_rV (As := [.int (nI (i + 1)), .int (nI (j + 1)), .ref b]) hC hP (c_X0_search l hP (k := k) (b := b) (ch := ch) (u := i + 1) (t := j + 1) (cl := (sT (I (b + 9)) ch (i + 1) j (sU (I (b + 9)) ch (2 ^ ch - 1) i))) (Sx := (sGrow Sx T2 H.size)) hI.2.2.1 hI.2.2.2.1 hI.2.2.2.2 (by first | assumption | omega) (by first | assumption | omega) (by first | assumption | omega) (by first | assumption | omega) c33 (sU_69 (by omega) (by omega) (by omega) c33)) hI.2.2.1.1 rfl ⟨q2_99, q2_96, q2_98, qs_10, q1_3⟩ dd_X0_search ⟨Nat.le_of_ble_eq_true rfl, Nat.le_of_ble_eq_true rfl, rfl, rfl⟩ hl.1 rfl (Nat.le_of_ble_eq_true rfl) dX0_searchAll_41 ⟨by show _ ≤ 450; omega, by show _ ≤ 1800; omega⟩) hS (fun q h => h.elim (hTA q) (fun z => hA q (Nat.le_trans hS.1 z))) (fun r9 H5 locs6 hq10 hS hz7 hfr8 => ?_)
                obtain ⟨rfl, T11, J12, Q13, O14, hP, hE3, hF3, hco3, hcs3⟩ := hq10
                refine W.eq (g2 := F0 m 44 ls []) rfl ?_
                refine lv_iinc (v := nI (j + 1 + 1)) (lv' := [(4, .int (nI (j + 1 + 1))), (0, .ref k), (1, .int (nI ob)), (2, .ref b), (3, .int (nI (i + 1)))]) hx hb dX0_searchAll_44 hl (k := 4) rfl (nI_inc _) (by decide) rfl (fun ls hl => ?_)
                refine lv_goto (tgt := 15) hx hb dX0_searchAll_47 (by decide) ?_
                refine W.widen (k := 30 * i + 2 * (j + 1)) (n := 120 * i + 8 * (j + 1)) (by omega) (by omega) ?_
                exact ih15 (j + 1) T11 J12 Q13 O14 (by omega) (by omega) (by first | (rw [show sT (I (b + 9)) ch (i + 1) (j + 1) (sU (I (b + 9)) ch (2 ^ ch - 1) i) = stepC (I (b + 9)) ch (sT (I (b + 9)) ch (i + 1) j (sU (I (b + 9)) ch (2 ^ ch - 1) i)) (i + 1) (j + 1) from if_pos c33]; exact sI_step hI hAs hTb hbS hbn hE3 hF3 hco3 hcs3 hlt) | (rw [show sT (I (b + 9)) ch (i + 1) (j + 1) (sU (I (b + 9)) ch (2 ^ ch - 1) i) = sT (I (b + 9)) ch (i + 1) j (sU (I (b + 9)) ch (2 ^ ch - 1) i) from if_neg c33]; exact hI)) (by first | exact hTA | exact fun q hq => (hE3.2 q hq).elim (hTA q) (fun z => hA q (Nat.le_trans hSo.1 z))) _ _ hP hS ls (lv_sub hl [1, 2, 3, 4, 0] rfl)
        refine W.widen (k := 30 * i + 2 * 0) (n := 120 * i + 8 * 0) (by omega) (by omega) ?_
        exact L15 17 0 T2 J2 Q2 O2 (by omega) (by omega) hI hTA _ _ hP hS ls (lv_sub hl [1, 2, 3, 4, 0] rfl)
  refine W.widen (k := 30 * 0) (n := 120 * 0) (by omega) (by omega) ?_
  exact L7 17 0 T J Q O3 (by omega) (by omega) ⟨⟨fun _ _ => rfl, fun _ h => Or.inl h⟩, fun q _ hs => ⟨rfl, rfl, by rw [hO3, au_ne _ _ _ (fun e => hs (by rw [e]; exact hSk))]⟩, coG_ext hco (fun _ _ => rfl) (by rw [hO3, au_row, gu_ne _ _ (by decide)]) (by rw [hO3, au_row, gu_ne _ _ (by decide)]) rfl, coS_mono (coS_zero hco hcs hO3) (fun q h => Or.inl h) (fun q h => h.elim (hSa q) (fun z => z.2)), isPl_au hpl hO3 nbk⟩ hTA _ _ hP hS ls (lv_sub hl [1, 2, 3, 0] rfl)
