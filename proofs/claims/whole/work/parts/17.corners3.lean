set_option maxHeartbeats 4000000 in
set_option maxRecDepth 100000 in
theorem c_X0_makePositive (l : Launch) {G : gG} {T : gTy} {I : gI} {J : gJ} {Q : gR} {O : gO} {H : Heap} (hP : gP G T I J Q O H) {k sp u : Nat} (hco : coG T Q O k) (hks : O k 2 = .ref sp) (hms : isMx T O sp) (hu : u < 16) : Met l yX0_makePositive (gw yX0_makePositive cX0_makePositive 5 (some (.boolean))) ({ frames := 2, cells := 0, slots := 0, locals := 43 } : Room) (gPc G H [.ref k, .int (nI u)]) (gQc (gF T H) (fun r H1 => (r = some (.int (gb true)) ∧ posOK (J (sp + 1)) u = true ∧ gP G T I (gu J (sp + 1) (mulR (J (sp + 1)) (sgnF (J (sp + 1)) u) 4)) Q O H1) ∨ (r = some (.int (gb false)) ∧ posOK (J (sp + 1)) u = false ∧ ∃ X2 : Nat → Int64, gP G T I (gu J (sp + 1) X2) Q O H1))) 0 0 (gF T H) := by
  refine g_met [(0, .ref k), (1, .int (nI u))] (by decide) rfl (by exact Nat.le_of_ble_eq_true rfl) ?_
  intro p e s m below meth c hC hs ls hl
  have hx := hC.1.1
  have hb := hC.1.2.1
  have hS : va_S (gF T H) s.heap H [] := hs ▸ va_S.rf
  have hTA : ∀ q, (T q).1 ≠ 0 → gF T H q := fun q h => Or.inl h
  have hA : ∀ q, s.heap.size ≤ q → gF T H q := fun q h => Or.inr (hs ▸ h)
  generalize hAe : gF T H = A at hS hTA hA ⊢
  refine lv_aload_n hx hb dX0_makePositive_0 rfl (lv_at hl 0 rfl) ?_
  refine lv_iload_n hx hb dX0_makePositive_1 rfl (lv_at hl 1 rfl) ?_
  refine g_cp (g_rV (As := [.int (nI u)]) hC hP (c_X0_signOfFirst l hP (k := k) (u := u) (by first | assumption | omega) (by first | assumption | omega) (by first | assumption | omega) (by first | assumption | omega)) hco.1 rfl ⟨q2_130, q2_127, q2_129, qs_17, q1_3⟩ dd_X0_signOfFirst ⟨Nat.le_of_ble_eq_true rfl, Nat.le_of_ble_eq_true rfl, rfl, rfl⟩ hl.1 rfl (Nat.le_of_ble_eq_true rfl) dX0_makePositive_2 ⟨Nat.le_of_ble_eq_true rfl, Nat.le_of_ble_eq_true rfl⟩) ?_
  refine W.eq (g2 := F0 m 5 ls [.long (sgnF (J (sp + 1)) u)]) rfl ?_
  refine lv_lstore_n (lv' := [(2, .long (sgnF (J (sp + 1)) u)), (0, .ref k), (1, .int (nI u))]) hx hb dX0_makePositive_5 rfl hl (by decide) rfl (fun ls hl => ?_)
  refine lv_iconst (v := nI 0) hx hb dX0_makePositive_6 (by decide) ?_
  refine lv_istore (lv' := [(4, .int (nI 0)), (2, .long (sgnF (J (sp + 1)) u)), (0, .ref k), (1, .int (nI u))]) hx hb dX0_makePositive_7 hl (by decide) rfl (fun ls hl => ?_)
  have L9 : ∀ (n9 : Nat) (i : Nat) (J2 : gJ), 5 ≤ n9 + i → (i ≤ 4) → (∀ k, k < i → u.testBit k = true → 0 < J (sp + 1) k * sgnF (J (sp + 1)) u) → (J2 = gu J (sp + 1) (mulR (J (sp + 1)) (sgnF (J (sp + 1)) u) i)) → ∀ (Hl : Heap) (lcl : List Loc), gP G T I J2 Q O Hl → va_S A s.heap Hl lcl → ∀ ls : Array Slot, lv_has ls 5 [(0, .ref k), (1, .int (nI u)), (2, .long (sgnF (J (sp + 1)) u)), (4, .int (nI i))] → W p l e ({ frames := 2, cells := 0, slots := 0, locals := 43 } : Room) s m [.ref k, .int (nI u)].toArray below meth c Hl lcl 0 0 (MQ below (gQc A (fun r H1 => (r = some (.int (gb true)) ∧ posOK (J (sp + 1)) u = true ∧ gP G T I (gu J (sp + 1) (mulR (J (sp + 1)) (sgnF (J (sp + 1)) u) 4)) Q O H1) ∨ (r = some (.int (gb false)) ∧ posOK (J (sp + 1)) u = false ∧ ∃ X2 : Nat → Int64, gP G T I (gu J (sp + 1) X2) Q O H1))) [.ref k, .int (nI u)].toArray s 0 0 A) (F0 m 9 ls []) := by
    intro n9
    induction n9 with
    | zero => intro i J2 hn9 hi h1 h2; exact absurd hn9 (by omega)
    | succ n9 ih9 =>
      intro i J2 hn9 hi h1 h2 Hl lcl hP hS ls hl
      refine lv_iload hx hb dX0_makePositive_9 (lv_at hl 3 rfl) ?_
      refine lv_iconst (v := nI 4) hx hb dX0_makePositive_11 (by decide) ?_
      refine lv_icmp_ge (tgt := 61) hx hb dX0_makePositive_12 (by decide) (fun c12 => ?_) (fun c12 => ?_)
      · have c12 := (nI_leI (by omega) (by omega)).mp c12
        refine lv_iconst (v := nI 1) hx hb dX0_makePositive_61 (by decide) ?_
        refine g_retcz hC hS (b := true) (by decide) ?_ dX0_makePositive_62
        refine Or.inl ⟨rfl, posOK_iff.mpr (fun j h hj => h1 j (by omega) hj), ?_⟩
        have e : i = 4 := by omega
        subst e
        subst h2
        exact hP
      · have c12 := mt (nI_leI (by omega) (by omega)).mpr c12
        refine lv_aload_n hx hb dX0_makePositive_15 rfl (lv_at hl 0 rfl) ?_
        refine g_get hC hP hco.1 rfl inX0 2 (by decide) q1_64 hks dX0_makePositive_16 ?_
        refine g_get hC hP hms.1 rfl inX2 0 (by decide) q1_38 hms.2.1 dX0_makePositive_19 ?_
        refine lv_iload hx hb dX0_makePositive_22 (lv_at hl 3 rfl) ?_
        refine lv_dup2_11 hx hb dX0_makePositive_24 rfl rfl ?_
        refine g_lald hC hP hms.2.2 (vp_in_nI (by omega) (by decide)) dX0_makePositive_25 ?_
        refine g_topl (y := J2 (sp + 1) i) (congrArg (J2 (sp + 1)) (nI_clamp (by omega))) ?_
        refine lv_lload_n hx hb dX0_makePositive_26 rfl (lv_at hl 2 rfl) ?_
        refine lv_lmul hx hb dX0_makePositive_27 ?_
        refine g_last hC hP hS hTA hms.2.2 (vp_in_nI (by omega) (by decide)) dX0_makePositive_28 (fun H1 locs2 hP hS hz4 => ?_)
        rw [show (nI i).toNatClampNeg = i from nI_clamp (by omega)] at hP
        obtain ⟨J3, hJ3, hP⟩ : ∃ X : gJ, X = au J2 (sp + 1) i ((J2 (sp + 1) i) * (sgnF (J (sp + 1)) u)) ∧ gP G T I X Q O H1 := ⟨_, rfl, hP⟩
        refine lv_iload_n hx hb dX0_makePositive_29 rfl (lv_at hl 1 rfl) ?_
        refine lv_iload hx hb dX0_makePositive_30 (lv_at hl 3 rfl) ?_
        refine g_cp (g_rSN (As := [.int (nI u), .int (nI i)]) hC (c_X4_hasBit l (B := u) (k := i) (by first | assumption | omega) (by first | assumption | omega)) ⟨q2_11, List.mem_of_getElem? (i := 8) rfl, q2_10, q1_1⟩ dd_X4_hasBit ⟨Nat.le_of_ble_eq_true rfl, Nat.le_of_ble_eq_true rfl, rfl, rfl⟩ hl.1 rfl (Nat.le_of_ble_eq_true rfl) dX0_makePositive_32 ⟨Nat.le_of_ble_eq_true rfl, Nat.le_of_ble_eq_true rfl⟩) ?_
        refine W.eq (g2 := F0 m 35 ls [.int (gb (u.testBit i))]) rfl ?_
        refine lv_if_eq (tgt := 55) hx hb dX0_makePositive_35 (by decide) (fun c35 => ?_) (fun c35 => ?_)
        · have c35 := gb_f c35
          refine lv_iinc (v := nI (i + 1)) (lv' := [(4, .int (nI (i + 1))), (0, .ref k), (1, .int (nI u)), (2, .long (sgnF (J (sp + 1)) u))]) hx hb dX0_makePositive_55 hl (k := 3) rfl (nI_inc _) (by decide) rfl (fun ls hl => ?_)
          refine lv_goto (tgt := 9) hx hb dX0_makePositive_58 (by decide) ?_
          exact ih9 (i + 1) J3 (by omega) (by omega) (fun j h hj => by rcases Nat.lt_succ_iff_lt_or_eq.mp h with h | rfl <;> first | exact h1 j h hj | exact c50 | (rw [hj] at c35; cases c35)) (by rw [hJ3, h2, au_gu, gu_eq, mulR_s]) _ _ hP hS ls (lv_sub hl [1, 2, 3, 0] rfl)
        · have c35 := gb_t c35
          refine lv_aload_n hx hb dX0_makePositive_38 rfl (lv_at hl 0 rfl) ?_
          refine g_get hC hP hco.1 rfl inX0 2 (by decide) q1_64 hks dX0_makePositive_39 ?_
          refine g_get hC hP hms.1 rfl inX2 0 (by decide) q1_38 hms.2.1 dX0_makePositive_42 ?_
          refine lv_iload hx hb dX0_makePositive_45 (lv_at hl 3 rfl) ?_
          refine g_lald hC hP hms.2.2 (vp_in_nI (by omega) (by decide)) dX0_makePositive_47 ?_
          refine g_topl (y := J (sp + 1) i * sgnF (J (sp + 1)) u) ((congrArg (J3 (sp + 1)) (nI_clamp (by omega))).trans (by rw [hJ3, au_row, gu_eq, h2, gu_eq]; unfold mulR; rw [if_neg (Nat.lt_irrefl i)])) ?_
          refine lv_lconst (v := 0) hx hb dX0_makePositive_48 (by decide) ?_
          refine W.lcmp hx hb dX0_makePositive_49 ?_
          refine lv_if_gt (tgt := 55) hx hb dX0_makePositive_50 (by decide) (fun c50 => ?_) (fun c50 => ?_)
          · have c50 := (lg_cmp_gt _ _).mp c50
            refine lv_iinc (v := nI (i + 1)) (lv' := [(4, .int (nI (i + 1))), (0, .ref k), (1, .int (nI u)), (2, .long (sgnF (J (sp + 1)) u))]) hx hb dX0_makePositive_55 hl (k := 3) rfl (nI_inc _) (by decide) rfl (fun ls hl => ?_)
            refine lv_goto (tgt := 9) hx hb dX0_makePositive_58 (by decide) ?_
            exact ih9 (i + 1) J3 (by omega) (by omega) (fun j h hj => by rcases Nat.lt_succ_iff_lt_or_eq.mp h with h | rfl <;> first | exact h1 j h hj | exact c50 | (rw [hj] at c35; cases c35)) (by rw [hJ3, h2, au_gu, gu_eq, mulR_s]) _ _ hP hS ls (lv_sub hl [1, 2, 3, 0] rfl)
          · have c50 := mt (lg_cmp_gt _ _).mpr c50
            refine lv_iconst (v := nI 0) hx hb dX0_makePositive_53 (by decide) ?_
            refine g_retcz hC hS (b := false) (by decide) ?_ dX0_makePositive_54
            refine Or.inr ⟨rfl, ?_, gu (mulR (J (sp + 1)) (sgnF (J (sp + 1)) u) i) i (mulR (J (sp + 1)) (sgnF (J (sp + 1)) u) i i * sgnF (J (sp + 1)) u), ?_⟩
            · rw [Bool.eq_false_iff]; intro h; exact c50 (posOK_iff.mp h i (by omega) c35)
            · rw [hJ3, h2, au_gu, gu_eq] at hP; exact hP
  exact L9 5 0 J (by omega) (by omega) (fun k h => absurd h (by omega)) (by rw [show mulR (J (sp + 1)) (sgnF (J (sp + 1)) u) 0 = J (sp + 1) from funext fun j => by simp [mulR], gu_self]) _ _ hP hS ls (lv_sub hl [2, 3, 1, 0] rfl)
set_option maxHeartbeats 4000000 in
set_option maxRecDepth 100000 in
theorem c_X2_init (l : Launch) {G : gG} {T : gTy} {I : gI} {J : gJ} {Q : gR} {O : gO} {H : Heap} (hP : gP G T I J Q O H) {x : Nat} (hx0 : T x = (1, 2)) (hsz : H.size = x + 1) : Met l yX2_init (gw yX2_init cX2_init 1 (none)) ({ frames := 1, cells := 1, slots := 4, locals := 20 } : Room) (gPc G H [.ref x]) (gQc (gF T H) (fun r H1 => r = none ∧ H1.size = x + 2 ∧ gP G (gu T (x + 1) (3, 4)) I (gu J (x + 1) (fun _ => 0)) Q (au O x 0 (.ref (x + 1))) H1)) 1 4 (gF T H) := by
  refine g_met [(0, .ref x)] (by decide) rfl (by exact Nat.le_of_ble_eq_true rfl) ?_
  intro p e s m below meth c hC hs ls hl
  have hx := hC.1.1
  have hb := hC.1.2.1
  have hS : va_S (gF T H) s.heap H [] := hs ▸ va_S.rf
  have hTA : ∀ q, (T q).1 ≠ 0 → gF T H q := fun q h => Or.inl h
  have hA : ∀ q, s.heap.size ≤ q → gF T H q := fun q h => Or.inr (hs ▸ h)
  generalize hAe : gF T H = A at hS hTA hA ⊢
  refine lv_aload_n hx hb dX2_init_0 rfl (lv_at hl 0 rfl) ?_
  refine W.objInit hx hb hC.1.2.2.2.1 (hC.1.2.2.2.2 _ q1_35) (hC.1.2.2.2.2 _ q1_15) (hC.1.2.2.2.2 _ q1_16) rfl (by rw [hC.1.2.2.1]; exact hl.1) rfl dX2_init_1 (Nat.le_of_ble_eq_true rfl) (Nat.le_of_ble_eq_true rfl) ?_
  refine W.eq (g2 := F0 m 4 ls []) rfl ?_
  refine lv_aload_n hx hb dX2_init_4 rfl (lv_at hl 0 rfl) ?_
  refine lv_iconst (v := nI 4) hx hb dX2_init_5 (by decide) ?_
  have hSo := hS
  have hPo := hP
  refine g_newJ hC hP hS q1_58 (by decide) (Nat.le_of_ble_eq_true rfl) (Nat.le_of_ble_eq_true rfl) dX2_init_6 (fun H1 hP hS hz2 => ?_)
  obtain ⟨T3, hT3, J4, hJ4, hP⟩ : ∃ T3 : gTy, T3 = gu T H.size (3, 4) ∧ ∃ J4 : gJ, J4 = gu J H.size (fun _ => 0) ∧ gP G T3 I J4 Q O H1 := ⟨_, rfl, _, rfl, hP⟩
  have hTk5 : ∀ a, a < H.size → T3 a = T a := by intro a ha; rw [hT3]; rw [gu_ne _ _ (by omega)]
  have hTA : ∀ q, (T3 q).1 ≠ 0 → A q := by intro q hq; by_cases e : q < H.size; (rw [hTk5 q e] at hq; exact hTA q hq); exact hA q (Nat.le_trans hSo.1 (by omega))
  have ht6 : T3 x = (1, 2) := (hTk5 _ (hPo.lt (by rw [hx0]; decide))).trans hx0
  have ht7 : T3 H.size = (3, 4) := (by rw [hT3]; exact gu_eq _ _ _)
  refine g_putF hC hP hS hTA ht6 rfl inX2 tyX2 tyX2_ok nmX2 0 (by decide) q1_36 rfl rfl (ty := tyX2 0) (by decide) rfl rfl dX2_init_8 (fun H8 locs9 hP hS hz11 => ?_)
  obtain ⟨O10, hO10, hP⟩ : ∃ X : gO, X = au O x 0 (.ref H.size) ∧ gP G T3 I J4 Q X H8 := ⟨_, rfl, hP⟩
  refine W.widen (k := 1) (n := 4) (by omega) (by omega) ?_
  refine g_retcv hC hS ?_ dX2_init_11
  refine ⟨rfl, by omega, ?_⟩
  have e : H.size = x + 1 := hsz
  simp only [*] at hP
  exact hP
/-- kinds that stay, new ones from n on -/
def tExt (T T' : gTy) (n : Nat) : Prop := (∀ q, (T q).1 ≠ 0 → T' q = T q) ∧ ∀ q, (T' q).1 ≠ 0 → (T q).1 ≠ 0 ∨ n ≤ q
def shR (X : Nat → Option Nat) (cnt i : Nat) : Nat → Option Nat := fun j => if i < j ∧ j ≤ cnt then X (j - 1) else X j
theorem shR_s {X : Nat → Option Nat} {cnt i : Nat} (h1 : 1 ≤ i) (h2 : i ≤ cnt) : gu (shR X cnt i) i (X (i - 1)) = shR X cnt (i - 1) := by
  funext j
  unfold gu shR
  by_cases e : j = i
  · subst e
    rw [if_pos rfl, if_pos (by omega)]
  · rw [if_neg e]
    by_cases h3 : i < j ∧ j ≤ cnt
    · rw [if_pos h3, if_pos (by omega)]
    · rw [if_neg h3, if_neg (by omega)]
def insA (ad : Nat → Nat) (sp pl j : Nat) : Nat := if j < pl then ad j else if j = pl then sp else ad (j - 1)
def adI (ad : Nat → Nat) (sp pl cnt j : Nat) : Nat := if j ≤ cnt then insA ad sp pl j else ad j
theorem isMx_ext {T T2 : gTy} {O O2 : gO} {a : Nat} (h : isMx T O a) (hT : ∀ q, (T q).1 ≠ 0 → T2 q = T q) (hO : O2 a = O a) : isMx T2 O2 a := by
  obtain ⟨h1, h2, h3⟩ := h
  exact ⟨by rw [hT a (by rw [h1]; simp)]; exact h1, by rw [hO]; exact h2, by rw [hT (a + 1) (by rw [h3]; simp)]; exact h3⟩
theorem ins_coR {T T2 : gTy} {Q Q2 : gR} {O O2 : gO} {k cnt fill fill2 sp sp2 pl : Nat} {ad : Nat → Nat} (hcr : coR T Q O k cnt fill sp ad) (hpl : pl ≤ cnt) (hk : T k = (1, 0)) (hT : ∀ q, (T q).1 ≠ 0 → T2 q = T q) (hO : ∀ q, (T q).1 ≠ 0 → q ≠ k → O2 q = O q) (hO0 : O2 k 0 = .int (nI (cnt + 1))) (hO2 : O2 k 2 = .ref sp2)
    (hQ : ∀ j, j < 69 → Q2 (k + 1) j = if j = pl then some sp else shR (Q (k + 1)) cnt pl j) (hsp : isMx T2 O2 sp2) (hcase : (cnt < fill ∧ fill2 = fill ∧ sp2 = ad cnt) ∨ (cnt = fill ∧ fill2 = fill + 1 ∧ cnt < 69 ∧ (T sp2).1 = 0)) :
    coR T2 Q2 O2 k (cnt + 1) fill2 sp2 (adI ad sp pl cnt) := by
  obtain ⟨g0, g2, gc, gf, gQ, gm, ga, gi⟩ := hcr
  have hmx : ∀ a, isMx T O a → isMx T2 O2 a := fun a h => isMx_ext h hT (hO a (by rw [h.1]; simp) (ne_of_T h.1 hk (by decide)))
  have old : ∀ a, isMx T O a → (T a).1 ≠ 0 := fun a h => by rw [h.1]; simp
  -- where a place's mix comes from: the spare one, or an old place other than cnt
  have src : ∀ j, j < fill2 → (j = pl ∧ adI ad sp pl cnt j = sp) ∨ (j ≠ pl ∧ ∃ i, i < fill ∧ i ≠ cnt ∧ adI ad sp pl cnt j = ad i ∧ (i = if j < pl then j else if j ≤ cnt then j - 1 else j)) := by
    intro j hj
    unfold adI insA
    by_cases e : j = pl
    · left
      subst e
      exact ⟨rfl, by rw [if_pos hpl, if_neg (by omega), if_pos rfl]⟩
    · right
      refine ⟨e, ?_⟩
      by_cases h1 : j < pl
      · exact ⟨j, by omega, by omega, by rw [if_pos (by omega), if_pos h1], by rw [if_pos h1]⟩
      · by_cases h2 : j ≤ cnt
        · exact ⟨j - 1, by omega, by omega, by rw [if_pos h2, if_neg h1, if_neg e], by rw [if_neg h1, if_pos h2]⟩
        · refine ⟨j, by omega, by omega, by rw [if_neg h2], by rw [if_neg h1, if_neg h2]⟩
  have nsp : sp2 ≠ sp ∧ ∀ i, i < fill → i ≠ cnt → ad i ≠ sp2 := by
    rcases hcase with ⟨h1, h2, h3⟩ | ⟨h1, h2, h3, h4⟩
    · exact ⟨by rw [h3]; exact (ga cnt h1).2, fun i hi hc e => hc (gi i cnt hi h1 (e.trans h3))⟩
    · exact ⟨fun e => old sp gm (by rw [← e]; exact h4), fun i hi _ e => old (ad i) (ga i hi).1 (by rw [e]; exact h4)⟩
  refine ⟨hO0, hO2, by omega, by omega, fun j hj => ?_, hsp, fun j hj => ?_, fun i j hi hj e => ?_⟩
  · rw [hQ j hj]
    by_cases e : j = pl
    · subst e
      rw [if_pos rfl, if_pos (by omega)]
      unfold adI insA
      rw [if_pos hpl, if_neg (by omega), if_pos rfl]
    · rw [if_neg e]
      unfold shR adI insA
      by_cases h1 : pl < j ∧ j ≤ cnt
      · rw [if_pos h1, gQ (j - 1) (by omega), if_pos (by omega), if_pos (by omega), if_pos h1.2, if_neg (by omega), if_neg e]
      · rw [if_neg h1, gQ j hj]
        by_cases h2 : j < pl
        · rw [if_pos (by omega), if_pos (by omega), if_pos (by omega), if_pos h2]
        · by_cases h3 : j < fill2
          · rw [if_pos (show j < fill by omega), if_pos h3, if_neg (by omega)]
          · rw [if_neg (by omega), if_neg h3]
  · rcases src j hj with ⟨e, e2⟩ | ⟨e, i, hi, hc, e2, -⟩
    · rw [e2]
      exact ⟨hmx sp gm, fun z => nsp.1 z.symm⟩
    · rw [e2]
      exact ⟨hmx _ (ga i hi).1, nsp.2 i hi hc⟩
  · rcases src i hi with ⟨a1, a2⟩ | ⟨a1, x, hx, hxc, a2, a3⟩ <;> rcases src j hj with ⟨b1, b2⟩ | ⟨b1, y, hy, hyc, b2, b3⟩
    · rw [a1, b1]
    · rw [a2, b2] at e
      exact absurd e.symm (ga y hy).2
    · rw [a2, b2] at e
      exact absurd e (ga x hx).2
    · rw [a2, b2] at e
      have exy := gi x y hx hy e
      rw [a3, b3] at exy
      by_cases p1 : i < pl <;> by_cases p2 : j < pl <;> by_cases p3 : i ≤ cnt <;> by_cases p4 : j ≤ cnt <;> simp only [p1, p2, p3, p4, if_true, if_false] at exy <;> omega
theorem coG_ext {T T2 : gTy} {Q Q2 : gR} {O O2 : gO} {k : Nat} (h : coG T Q O k) (hT : ∀ q, (T q).1 ≠ 0 → T2 q = T q) (hO1 : O2 k 1 = O k 1) (hO3 : O2 k 3 = O k 3) (hQ : Q2 (k + 4) = Q (k + 4)) : coG T2 Q2 O2 k := by
  obtain ⟨a1, a2, a3, a4, a5, a6, a7, a8, a9, a10, a11⟩ := h
  exact ⟨by rw [hT k (by rw [a1]; simp)]; exact a1, by rw [hO1]; exact a2, by rw [hO3]; exact a3, by rw [hT _ (by rw [a4]; simp)]; exact a4, by rw [hT _ (by rw [a5]; simp)]; exact a5, by rw [hT _ (by rw [a6]; simp)]; exact a6, by rw [hT _ (by rw [a7]; simp)]; exact a7, by rw [hT _ (by rw [a8]; simp)]; exact a8, by rw [hQ]; exact a9, by rw [hQ]; exact a10, by rw [hQ]; exact a11⟩
/-- what insertSpare leaves -/
def insPost (G : gG) (T : gTy) (I : gI) (J : gJ) (Q : gR) (O : gO) (n k cnt fill sp : Nat) (ad : Nat → Nat) (pl : Nat) (H1 : Heap) : Prop := ∃ (T2 : gTy) (J2 : gJ) (Q2 : gR) (O2 : gO) (fill2 sp2 : Nat) (ad2 : Nat → Nat), gP G T2 I J2 Q2 O2 H1 ∧ tExt T T2 n ∧ (∀ q, (T q).1 ≠ 0 → J2 q = J q) ∧ (∀ q, q ≠ k + 1 → Q2 q = Q q) ∧ (∀ q, (T q).1 ≠ 0 → q ≠ k → O2 q = O q) ∧ coG T2 Q2 O2 k ∧ coR T2 Q2 O2 k (cnt + 1) fill2 sp2 ad2 ∧ (∀ j, j ≤ cnt → ad2 j = insA ad sp pl j) ∧ ∀ a, (a = sp2 ∨ ∃ j, j < fill2 ∧ a = ad2 j) → (a = sp ∨ (∃ j, j < fill ∧ a = ad j) ∨ (T a).1 = 0)
theorem ins_fin {G : gG} {T T2 : gTy} {I : gI} {J J2 : gJ} {Q Q2 : gR} {O O2 : gO} {H1 : Heap} {n k cnt fill fill2 sp sp2 pl : Nat} {ad : Nat → Nat} (hco : coG T Q O k) (hcr : coR T Q O k cnt fill sp ad) (hpl : pl ≤ cnt) (hE : tExt T T2 n) (hJ : ∀ q, (T q).1 ≠ 0 → J2 q = J q) (hQ2 : Q2 = au (gu Q (k + 1) (shR (Q (k + 1)) cnt pl)) (k + 1) pl (some sp)) (hO : ∀ q, (T q).1 ≠ 0 → q ≠ k → O2 q = O q) (hOk : ∀ f, f ≠ 0 → f ≠ 2 → O2 k f = O k f) (hO0 : O2 k 0 = .int (nI (cnt + 1))) (hO2 : O2 k 2 = .ref sp2) (hsp : isMx T2 O2 sp2)
    (hcase : (cnt < fill ∧ fill2 = fill ∧ sp2 = ad cnt) ∨ (cnt = fill ∧ fill2 = fill + 1 ∧ cnt < 69 ∧ (T sp2).1 = 0)) (hP : gP G T2 I J2 Q2 O2 H1) : insPost G T I J Q O n k cnt fill sp ad pl H1 := by
  have q1 : ∀ q, q ≠ k + 1 → Q2 q = Q q := fun q h => by rw [hQ2, au_ne _ _ _ h, gu_ne _ _ h]
  refine ⟨T2, J2, Q2, O2, fill2, sp2, _, hP, hE, hJ, q1, hO, coG_ext hco hE.1 (hOk 1 (by decide) (by decide)) (hOk 3 (by decide) (by decide)) (q1 _ (by omega)), ins_coR hcr hpl hco.1 hE.1 hO hO0 hO2 (fun j _ => ?_) hsp hcase, fun j hj => if_pos hj, fun a ha => ?_⟩
  · rw [hQ2, au_gu, gu_eq]
    rfl
  · have hcf := hcr.2.2.1
    rcases ha with rfl | ⟨j, hj, rfl⟩
    · rcases hcase with ⟨h1, h2, h3⟩ | ⟨h1, h2, h3, h4⟩
      · exact Or.inr (Or.inl ⟨cnt, h1, h3⟩)
      · exact Or.inr (Or.inr h4)
    · unfold adI insA
      by_cases h1 : j ≤ cnt
      · rw [if_pos h1]
        by_cases h2 : j < pl
        · rw [if_pos h2]
          exact Or.inr (Or.inl ⟨j, by omega, rfl⟩)
        · rw [if_neg h2]
          by_cases h3 : j = pl
          · rw [if_pos h3]
            exact Or.inl rfl
          · rw [if_neg h3]
            exact Or.inr (Or.inl ⟨j - 1, by omega, rfl⟩)
      · rw [if_neg h1]
        exact Or.inr (Or.inl ⟨j, by omega, rfl⟩)
set_option maxHeartbeats 4000000 in
set_option maxRecDepth 100000 in
theorem c_X0_insertSpare (l : Launch) {G : gG} {T : gTy} {I : gI} {J : gJ} {Q : gR} {O : gO} {H : Heap} (hP : gP G T I J Q O H) {k cnt fill sp pl : Nat} {ad : Nat → Nat} (hco : coG T Q O k) (hcr : coR T Q O k cnt fill sp ad) (hpl : pl ≤ cnt) (hcnt : cnt < 69) : Met l yX0_insertSpare (gw yX0_insertSpare cX0_insertSpare 4 (none)) ({ frames := 2, cells := 2, slots := 8, locals := 40 } : Room) (gPc G H [.ref k, .int (nI pl)]) (gQc (gF T H) (fun r H1 => r = none ∧ insPost G T I J Q O H.size k cnt fill sp ad pl H1)) 2 8 (gF T H) := by
  refine g_met [(0, .ref k), (1, .int (nI pl))] (by decide) rfl (by exact Nat.le_of_ble_eq_true rfl) ?_
  intro p e s m below meth c hC hs ls hl
  have hx := hC.1.1
  have hb := hC.1.2.1
  have hS : va_S (gF T H) s.heap H [] := hs ▸ va_S.rf
  have hTA : ∀ q, (T q).1 ≠ 0 → gF T H q := fun q h => Or.inl h
  have hA : ∀ q, s.heap.size ≤ q → gF T H q := fun q h => Or.inr (hs ▸ h)
  generalize hAe : gF T H = A at hS hTA hA ⊢
  have hcr_c := hcr.2.2.1
  have hcr_f := hcr.2.2.2.1
  refine lv_aload_n hx hb dX0_insertSpare_0 rfl (lv_at hl 0 rfl) ?_
  refine g_get hC hP hco.1 rfl inX0 1 (by decide) q1_63 hco.2.1 dX0_insertSpare_1 ?_
  refine lv_aload_n hx hb dX0_insertSpare_4 rfl (lv_at hl 0 rfl) ?_
  refine g_get hC hP hco.1 rfl inX0 0 (by decide) q1_61 hcr.1 dX0_insertSpare_5 ?_
  by_cases hcf : cnt < fill
  · have hmc := (hcr.2.2.2.2.2.2.1 cnt hcf).1
    refine g_aald hC hP hco.2.2.2.1 (vp_in_nI (by omega) (by decide)) (v := .ref (ad cnt)) (by rw [nI_clamp (by omega), hcr.2.2.2.2.1 cnt (by omega), if_pos hcf]; rfl) dX0_insertSpare_8 ?_
    refine lv_astore_n (lv' := [(2, .ref (ad cnt)), (0, .ref k), (1, .int (nI pl))]) hx hb dX0_insertSpare_9 rfl hl (by decide) rfl (fun ls hl => ?_)
    refine lv_aload_n hx hb dX0_insertSpare_10 rfl (lv_at hl 1 rfl) ?_
    refine g_get hC hP hco.1 rfl inX0 0 (by decide) q1_61 hcr.1 dX0_insertSpare_11 ?_
    refine lv_istore_n (lv' := [(3, .int (nI cnt)), (2, .ref (ad cnt)), (0, .ref k), (1, .int (nI pl))]) hx hb dX0_insertSpare_14 rfl hl (by decide) rfl (fun ls hl => ?_)
    have L15 : ∀ (n15 : Nat) (i : Nat) (Q2 : gR), i < n15 → (pl ≤ i ∧ i ≤ cnt) → (Q2 = gu Q (k + 1) (shR (Q (k + 1)) cnt i)) → ∀ (Hl : Heap) (lcl : List Loc), gP G T I J Q2 O Hl → va_S A s.heap Hl lcl → ∀ ls : Array Slot, lv_has ls 4 [(0, .ref k), (1, .int (nI pl)), (2, .ref (ad cnt)), (3, .int (nI i))] → W p l e ({ frames := 2, cells := 2, slots := 8, locals := 40 } : Room) s m [.ref k, .int (nI pl)].toArray below meth c Hl lcl 0 0 (MQ below (gQc A (fun r H1 => r = none ∧ insPost G T I J Q O H.size k cnt fill sp ad pl H1)) [.ref k, .int (nI pl)].toArray s 2 8 A) (F0 m 15 ls []) := by
      intro n15
      induction n15 with
      | zero => intro i Q2 hn15 hi h1; exact absurd hn15 (by omega)
      | succ n15 ih15 =>
        intro i Q2 hn15 hi h1 Hl lcl hP hS ls hl
        refine lv_iload_n hx hb dX0_insertSpare_15 rfl (lv_at hl 3 rfl) ?_
        refine lv_iload_n hx hb dX0_insertSpare_16 rfl (lv_at hl 1 rfl) ?_
        refine lv_icmp_le (tgt := 40) hx hb dX0_insertSpare_17 (by decide) (fun c17 => ?_) (fun c17 => ?_)
        · have c17 := (nI_leI (by omega) (by omega)).mp c17
          refine lv_aload_n hx hb dX0_insertSpare_40 rfl (lv_at hl 0 rfl) ?_
          refine g_get hC hP hco.1 rfl inX0 1 (by decide) q1_63 hco.2.1 dX0_insertSpare_41 ?_
          refine lv_iload_n hx hb dX0_insertSpare_44 rfl (lv_at hl 1 rfl) ?_
          refine lv_aload_n hx hb dX0_insertSpare_45 rfl (lv_at hl 0 rfl) ?_
          refine g_get hC hP hco.1 rfl inX0 2 (by decide) q1_64 hcr.2.1 dX0_insertSpare_46 ?_
          refine g_aast hC hP hS hTA hco.2.2.2.1 hcr.2.2.2.2.2.1.1 (vp_in_nI (by omega) (by decide)) dX0_insertSpare_49 (fun H1 locs2 hP hS hz4 => ?_)
          rw [show (nI pl).toNatClampNeg = pl from nI_clamp (by omega)] at hP
          obtain ⟨Q3, hQ3, hP⟩ : ∃ X : gR, X = au Q2 (k + 1) pl (some sp) ∧ gP G T I J X O H1 := ⟨_, rfl, hP⟩
          refine lv_aload_n hx hb dX0_insertSpare_50 rfl (lv_at hl 0 rfl) ?_
          refine lv_aload_n hx hb dX0_insertSpare_51 rfl (lv_at hl 2 rfl) ?_
          refine lv_ifnonnull (tgt := 65) hx hb dX0_insertSpare_52 (by decide) ?_
          refine lv_aload_n hx hb dX0_insertSpare_65 rfl (lv_at hl 2 rfl) ?_
          refine g_put hC hP hS hTA hco.1 rfl inX0 tyX0 tyX0_ok nmX0 2 (by decide) q1_64 rfl (ty := tyX0 2) (by decide) rfl rfl dX0_insertSpare_66 (fun H5 locs6 hP hS hz8 => ?_)
          obtain ⟨O7, hO7, hP⟩ : ∃ X : gO, X = au O k 2 (.ref (ad cnt)) ∧ gP G T I J Q3 X H5 := ⟨_, rfl, hP⟩
          refine lv_aload_n hx hb dX0_insertSpare_69 rfl (lv_at hl 0 rfl) ?_
          refine lv_dup hx hb dX0_insertSpare_70 rfl ?_
          have ho9 : O7 k 0 = .int (nI cnt) := by rw [hO7, au_row, gu_ne _ _ (by decide)]; exact hcr.1
          refine g_get hC hP hco.1 rfl inX0 0 (by decide) q1_61 ho9 dX0_insertSpare_71 ?_
          refine lv_iconst (v := nI 1) hx hb dX0_insertSpare_74 (by decide) ?_
          refine lv_iadd hx hb dX0_insertSpare_75 ?_
          refine g_topi (y := nI (cnt + 1)) (nI_add _ _) ?_
          refine g_put hC hP hS hTA hco.1 rfl inX0 tyX0 tyX0_ok nmX0 0 (by decide) q1_61 rfl (ty := tyX0 0) (by decide) rfl rfl dX0_insertSpare_76 (fun H10 locs11 hP hS hz13 => ?_)
          obtain ⟨O12, hO12, hP⟩ : ∃ X : gO, X = au O7 k 0 (.int (nI (cnt + 1))) ∧ gP G T I J Q3 X H10 := ⟨_, rfl, hP⟩
          refine W.widen (k := 2) (n := 8) (by omega) (by omega) ?_
          refine g_retcv hC hS ?_ dX0_insertSpare_79
          have hPf := hP
          subst h1
          have e : i = pl := by omega
          subst e
          refine ⟨rfl, ins_fin (fill2 := fill) (sp2 := ad cnt) hco hcr hpl ⟨fun _ _ => rfl, fun _ h => Or.inl h⟩ (fun _ _ => rfl) hQ3 (fun q hq hk => ?_) (fun f h0 h2 => ?_) ?_ ?_ ?_ (Or.inl ⟨hcf, rfl, rfl⟩) hPf⟩
          · rw [hO12, au_ne _ _ _ hk, hO7, au_ne _ _ _ hk]
          · rw [hO12, au_row, gu_ne _ _ h0, hO7, au_row, gu_ne _ _ h2]
          · rw [hO12, au_row, gu_eq]
          · rw [hO12, au_row, gu_ne _ _ (by decide), hO7, au_row, gu_eq]
          · have nk := ne_of_T hmc.1 hco.1 (by decide)
            exact isMx_au (isMx_au hmc hO7 (Or.inl nk)) hO12 (Or.inl nk)
        · have c17 := mt (nI_leI (by omega) (by omega)).mpr c17
          have hmi := (hcr.2.2.2.2.2.2.1 (i - 1) (by omega)).1
          refine lv_aload_n hx hb dX0_insertSpare_20 rfl (lv_at hl 0 rfl) ?_
          refine g_get hC hP hco.1 rfl inX0 1 (by decide) q1_63 hco.2.1 dX0_insertSpare_21 ?_
          refine lv_iload_n hx hb dX0_insertSpare_24 rfl (lv_at hl 3 rfl) ?_
          refine lv_aload_n hx hb dX0_insertSpare_25 rfl (lv_at hl 0 rfl) ?_
          refine g_get hC hP hco.1 rfl inX0 1 (by decide) q1_63 hco.2.1 dX0_insertSpare_26 ?_
          refine lv_iload_n hx hb dX0_insertSpare_29 rfl (lv_at hl 3 rfl) ?_
          refine lv_iconst (v := nI 1) hx hb dX0_insertSpare_30 (by decide) ?_
          refine lv_isub hx hb dX0_insertSpare_31 ?_
          refine g_topi (y := nI (i - 1)) (nI_subn (by omega)) ?_
          refine g_aald hC hP hco.2.2.2.1 (vp_in_nI (by omega) (by decide)) (v := .ref (ad (i - 1))) (by rw [nI_clamp (by omega), h1, gu_eq]; unfold shR; rw [if_neg (by omega), hcr.2.2.2.2.1 (i - 1) (by omega), if_pos (by omega)]; rfl) dX0_insertSpare_32 ?_
          refine g_aast hC hP hS hTA hco.2.2.2.1 hmi.1 (vp_in_nI (by omega) (by decide)) dX0_insertSpare_33 (fun H14 locs15 hP hS hz17 => ?_)
          rw [show (nI i).toNatClampNeg = i from nI_clamp (by omega)] at hP
          obtain ⟨Q16, hQ16, hP⟩ : ∃ X : gR, X = au Q2 (k + 1) i (some (ad (i - 1))) ∧ gP G T I J X O H14 := ⟨_, rfl, hP⟩
          refine lv_iinc (v := nI (i - 1)) (lv' := [(3, .int (nI (i - 1))), (0, .ref k), (1, .int (nI pl)), (2, .ref (ad cnt))]) hx hb dX0_insertSpare_34 hl (k := 3) rfl (nI_dec (by omega)) (by decide) rfl (fun ls hl => ?_)
          refine lv_goto (tgt := 15) hx hb dX0_insertSpare_37 (by decide) ?_
          exact ih15 (i - 1) Q16 (by omega) (by omega) (by rw [hQ16, h1, au_gu]; rw [← shR_s (X := Q (k + 1)) (by omega) (by omega), hcr.2.2.2.2.1 (i - 1) (by omega), if_pos (by omega)]) _ _ hP hS ls (lv_sub hl [1, 2, 3, 0] rfl)
    exact L15 (cnt + 1) cnt Q (by omega) (by omega) (by rw [show shR (Q (k + 1)) cnt cnt = Q (k + 1) from funext fun j => by unfold shR; rw [if_neg (by omega)], gu_self]) _ _ hP hS ls (lv_sub hl [2, 3, 1, 0] rfl)
  · skip
    refine g_aald hC hP hco.2.2.2.1 (vp_in_nI (by omega) (by decide)) (v := .null) (by rw [nI_clamp (by omega), hcr.2.2.2.2.1 cnt (by omega), if_neg hcf]; rfl) dX0_insertSpare_8 ?_
    refine lv_astore_nN (lv' := [(2, .null), (0, .ref k), (1, .int (nI pl))]) hx hb dX0_insertSpare_9 rfl hl (by decide) rfl (fun ls hl => ?_)
    refine lv_aload_n hx hb dX0_insertSpare_10 rfl (lv_at hl 1 rfl) ?_
    refine g_get hC hP hco.1 rfl inX0 0 (by decide) q1_61 hcr.1 dX0_insertSpare_11 ?_
    refine lv_istore_n (lv' := [(3, .int (nI cnt)), (2, .null), (0, .ref k), (1, .int (nI pl))]) hx hb dX0_insertSpare_14 rfl hl (by decide) rfl (fun ls hl => ?_)
    have L15 : ∀ (n15 : Nat) (i : Nat) (Q2 : gR), i < n15 → (pl ≤ i ∧ i ≤ cnt) → (Q2 = gu Q (k + 1) (shR (Q (k + 1)) cnt i)) → ∀ (Hl : Heap) (lcl : List Loc), gP G T I J Q2 O Hl → va_S A s.heap Hl lcl → ∀ ls : Array Slot, lv_has ls 4 [(0, .ref k), (1, .int (nI pl)), (2, .null), (3, .int (nI i))] → W p l e ({ frames := 2, cells := 2, slots := 8, locals := 40 } : Room) s m [.ref k, .int (nI pl)].toArray below meth c Hl lcl 0 0 (MQ below (gQc A (fun r H1 => r = none ∧ insPost G T I J Q O H.size k cnt fill sp ad pl H1)) [.ref k, .int (nI pl)].toArray s 2 8 A) (F0 m 15 ls []) := by
      intro n15
      induction n15 with
      | zero => intro i Q2 hn15 hi h1; exact absurd hn15 (by omega)
      | succ n15 ih15 =>
        intro i Q2 hn15 hi h1 Hl lcl hP hS ls hl
        refine lv_iload_n hx hb dX0_insertSpare_15 rfl (lv_at hl 3 rfl) ?_
        refine lv_iload_n hx hb dX0_insertSpare_16 rfl (lv_at hl 1 rfl) ?_
        refine lv_icmp_le (tgt := 40) hx hb dX0_insertSpare_17 (by decide) (fun c17 => ?_) (fun c17 => ?_)
        · have c17 := (nI_leI (by omega) (by omega)).mp c17
          refine lv_aload_n hx hb dX0_insertSpare_40 rfl (lv_at hl 0 rfl) ?_
          refine g_get hC hP hco.1 rfl inX0 1 (by decide) q1_63 hco.2.1 dX0_insertSpare_41 ?_
          refine lv_iload_n hx hb dX0_insertSpare_44 rfl (lv_at hl 1 rfl) ?_
          refine lv_aload_n hx hb dX0_insertSpare_45 rfl (lv_at hl 0 rfl) ?_
          refine g_get hC hP hco.1 rfl inX0 2 (by decide) q1_64 hcr.2.1 dX0_insertSpare_46 ?_
          refine g_aast hC hP hS hTA hco.2.2.2.1 hcr.2.2.2.2.2.1.1 (vp_in_nI (by omega) (by decide)) dX0_insertSpare_49 (fun H18 locs19 hP hS hz21 => ?_)
          rw [show (nI pl).toNatClampNeg = pl from nI_clamp (by omega)] at hP
          obtain ⟨Q20, hQ20, hP⟩ : ∃ X : gR, X = au Q2 (k + 1) pl (some sp) ∧ gP G T I J X O H18 := ⟨_, rfl, hP⟩
          refine lv_aload_n hx hb dX0_insertSpare_50 rfl (lv_at hl 0 rfl) ?_
          refine lv_aload_nN hx hb dX0_insertSpare_51 rfl (lv_at hl 2 rfl) ?_
          refine lv_ifnonnullN hx hb dX0_insertSpare_52 ?_
          have hPn := hP
          have hAs : H.size ≤ H18.size := by have := hS.1; rw [hs] at this; exact this
          have hSo := hS
          have hPo := hP
          refine g_new hC hP hS (ci := 2) rfl inX2 tyX2 tyX2_ok ⟨q1_29, q1_31, q1_4⟩ (fun k => match k with | 0 => .null | 1 => .long 0 | 2 => .int 0 | 3 => .int 0 | _ => .null) (fun j hj => by rcases (show j = 0 ∨ j = 1 ∨ j = 2 ∨ j = 3 by omega) with rfl | rfl | rfl | rfl <;> rfl) (Nat.le_of_ble_eq_true rfl) (Nat.le_of_ble_eq_true rfl) dX0_insertSpare_55 (fun H22 hP hS hz23 => ?_)
          obtain ⟨T24, hT24, O25, hO25, hP⟩ : ∃ T24 : gTy, T24 = gu T H18.size (1, 2) ∧ ∃ O25 : gO, O25 = gu O H18.size (fun k => match k with | 0 => .null | 1 => .long 0 | 2 => .int 0 | 3 => .int 0 | _ => .null) ∧ gP G T24 I J Q20 O25 H22 := ⟨_, rfl, _, rfl, hP⟩
          have hTk26 : ∀ a, a < H18.size → T24 a = T a := by intro a ha; rw [hT24]; rw [gu_ne _ _ (by omega)]
          have hTA : ∀ q, (T24 q).1 ≠ 0 → A q := by intro q hq; by_cases e : q < H18.size; (rw [hTk26 q e] at hq; exact hTA q hq); exact hA q (Nat.le_trans hSo.1 (by omega))
          have ht27 : T24 k = (1, 0) := (hTk26 _ (hPo.lt (by rw [hco.1]; decide))).trans hco.1
          have ht28 : T24 (k + 1) = (4, 69) := (hTk26 _ (hPo.lt (by rw [hco.2.2.2.1]; decide))).trans hco.2.2.2.1
          have ht29 : T24 (k + 4) = (5, 3) := (hTk26 _ (hPo.lt (by rw [hco.2.2.2.2.1]; decide))).trans hco.2.2.2.2.1
          have ht30 : T24 sp = (1, 2) := (hTk26 _ (hPo.lt (by rw [hcr.2.2.2.2.2.1.1]; decide))).trans hcr.2.2.2.2.2.1.1
          have ht31 : T24 (sp + 1) = (3, 4) := (hTk26 _ (hPo.lt (by rw [hcr.2.2.2.2.2.1.2.2]; decide))).trans hcr.2.2.2.2.2.1.2.2
          have ht32 : T24 H18.size = (1, 2) := (by rw [hT24]; exact gu_eq _ _ _)
          have ho33 : O25 k 1 = .ref (k + 1) := by rw [hO25, gu_ne _ _ (Nat.ne_of_lt (hPo.lt (by rw [hco.1]; decide)))]; exact hco.2.1
          have ho34 : O25 k 3 = .ref (k + 4) := by rw [hO25, gu_ne _ _ (Nat.ne_of_lt (hPo.lt (by rw [hco.1]; decide)))]; exact hco.2.2.1
          have ho35 : O25 k 0 = .int (nI cnt) := by rw [hO25, gu_ne _ _ (Nat.ne_of_lt (hPo.lt (by rw [hco.1]; decide)))]; exact hcr.1
          have ho36 : O25 k 2 = .ref sp := by rw [hO25, gu_ne _ _ (Nat.ne_of_lt (hPo.lt (by rw [hco.1]; decide)))]; exact hcr.2.1
          have ho37 : O25 sp 0 = .ref (sp + 1) := by rw [hO25, gu_ne _ _ (Nat.ne_of_lt (hPo.lt (by rw [hcr.2.2.2.2.2.1.1]; decide)))]; exact hcr.2.2.2.2.2.1.2.1
          have ho38 : O25 H18.size 0 = .null := by rw [hO25, gu_eq]; rfl
          have ho39 : O25 H18.size 1 = .long (0 : Int64) := by rw [hO25, gu_eq]; rfl
          have ho40 : O25 H18.size 2 = .int (nI 0) := by rw [hO25, gu_eq]; rfl
          have ho41 : O25 H18.size 3 = .int (nI 0) := by rw [hO25, gu_eq]; rfl
          refine lv_dup hx hb dX0_insertSpare_58 rfl ?_
          have hPo := hP
          have hSo := hS
          refine g_cc (g_rIN (As := []) hC (c_X2_init l hP (x := H18.size) (by first | assumption | omega) (by first | assumption | omega)) ⟨q1_34, List.mem_of_getElem? (i := 2) rfl, q1_33, q1_4⟩ rfl dd_X2_init ⟨Nat.le_of_ble_eq_true rfl, Nat.le_of_ble_eq_true rfl, rfl, rfl⟩ hl.1 rfl (Nat.le_of_ble_eq_true rfl) dX0_insertSpare_59 ⟨Nat.le_of_ble_eq_true rfl, Nat.le_of_ble_eq_true rfl⟩) hS (fun q h => h.elim (hTA q) (fun z => hA q (Nat.le_trans hS.1 z))) (fun r46 H42 locs43 hq47 hS hz44 hfr45 => ?_)
          obtain ⟨rfl, hzz48, hP⟩ := hq47
          obtain ⟨T49, hT49, J50, hJ50, O51, hO51, hP⟩ : ∃ X : gTy, X = gu T24 (H18.size + 1) (3, 4) ∧ ∃ Y : gJ, Y = gu J (H18.size + 1) (fun _ => 0) ∧ ∃ Z : gO, Z = au O25 H18.size 0 (.ref (H18.size + 1)) ∧ gP G X I Y Q20 Z H42 := ⟨_, rfl, _, rfl, _, rfl, hP⟩
          have hTk52 : ∀ a, a < H22.size → T49 a = T24 a := by intro a ha; rw [hT49]; rw [gu_ne _ _ (by omega)]
          have hTA : ∀ q, (T49 q).1 ≠ 0 → A q := by intro q hq; by_cases e : q < H22.size; (rw [hTk52 q e] at hq; exact hTA q hq); exact hA q (Nat.le_trans hSo.1 (by omega))
          have ht53 : T49 k = (1, 0) := (hTk52 _ (hPo.lt (by rw [ht27]; decide))).trans ht27
          have ht54 : T49 (k + 1) = (4, 69) := (hTk52 _ (hPo.lt (by rw [ht28]; decide))).trans ht28
          have ht55 : T49 (k + 4) = (5, 3) := (hTk52 _ (hPo.lt (by rw [ht29]; decide))).trans ht29
          have ht56 : T49 sp = (1, 2) := (hTk52 _ (hPo.lt (by rw [ht30]; decide))).trans ht30
          have ht57 : T49 (sp + 1) = (3, 4) := (hTk52 _ (hPo.lt (by rw [ht31]; decide))).trans ht31
          have ht58 : T49 H18.size = (1, 2) := (hTk52 _ (hPo.lt (by rw [ht32]; decide))).trans ht32
          have ht59 : T49 (H18.size + 1) = (3, 4) := by rw [hT49]; exact gu_eq _ _ _
          refine W.eq (g2 := F0 m 62 ls [.ref H18.size, .ref k]) rfl ?_
          refine lv_goto (tgt := 66) hx hb dX0_insertSpare_62 (by decide) ?_
          refine g_put hC hP hS hTA ht53 rfl inX0 tyX0 tyX0_ok nmX0 2 (by decide) q1_64 rfl (ty := tyX0 2) (by decide) rfl rfl dX0_insertSpare_66 (fun H60 locs61 hP hS hz63 => ?_)
          obtain ⟨O62, hO62, hP⟩ : ∃ X : gO, X = au O51 k 2 (.ref H18.size) ∧ gP G T49 I J50 Q20 X H60 := ⟨_, rfl, hP⟩
          refine lv_aload_n hx hb dX0_insertSpare_69 rfl (lv_at hl 0 rfl) ?_
          refine lv_dup hx hb dX0_insertSpare_70 rfl ?_
          have ho64 : O51 k 0 = .int (nI cnt) := by rw [hO51, au_ne _ _ _ (ne_of_T ht53 ht58 (by decide))]; exact ho35
          have ho65 : O62 k 0 = .int (nI cnt) := by rw [hO62, au_row, gu_ne _ _ (by decide)]; exact ho64
          refine g_get hC hP ht53 rfl inX0 0 (by decide) q1_61 ho65 dX0_insertSpare_71 ?_
          refine lv_iconst (v := nI 1) hx hb dX0_insertSpare_74 (by decide) ?_
          refine lv_iadd hx hb dX0_insertSpare_75 ?_
          refine g_topi (y := nI (cnt + 1)) (nI_add _ _) ?_
          refine g_put hC hP hS hTA ht53 rfl inX0 tyX0 tyX0_ok nmX0 0 (by decide) q1_61 rfl (ty := tyX0 0) (by decide) rfl rfl dX0_insertSpare_76 (fun H66 locs67 hP hS hz69 => ?_)
          obtain ⟨O68, hO68, hP⟩ : ∃ X : gO, X = au O62 k 0 (.int (nI (cnt + 1))) ∧ gP G T49 I J50 Q20 X H66 := ⟨_, rfl, hP⟩
          refine W.widen (k := 2) (n := 8) (by omega) (by omega) ?_
          refine g_retcv hC hS ?_ dX0_insertSpare_79
          have hPf := hP
          subst h1
          have e : i = pl := by omega
          subst e
          have ty : (T H18.size).1 = 0 := hPn.new
          have ny : ∀ q, (T q).1 ≠ 0 → q < H18.size := fun q hq => hPn.lt hq
          refine ⟨rfl, ins_fin (fill2 := fill + 1) (sp2 := H18.size) hco hcr hpl ⟨fun q hq => ?_, fun q hq => ?_⟩ (fun q hq => ?_) hQ20 (fun q hq hk => ?_) (fun f h0 h2 => ?_) ?_ ?_ ⟨?_, ?_, ?_⟩ (Or.inr ⟨by omega, rfl, by omega, ty⟩) hPf⟩
          · have := ny q hq
            rw [hT49, gu_ne _ _ (by omega), hT24, gu_ne _ _ (by omega)]
          · by_cases e1 : q < H18.size
            · left
              rw [hT49, gu_ne _ _ (by omega), hT24, gu_ne _ _ (by omega)] at hq
              exact hq
            · right
              omega
          · have := ny q hq
            rw [hJ50, gu_ne _ _ (by omega)]
          · have := ny q hq
            rw [hO68, au_ne _ _ _ hk, hO62, au_ne _ _ _ hk, hO51, au_ne _ _ _ (by omega), hO25, gu_ne _ _ (by omega)]
          · have := ny k (by rw [hco.1]; simp)
            rw [hO68, au_row, gu_ne _ _ h0, hO62, au_row, gu_ne _ _ h2, hO51, au_ne _ _ _ (by omega), hO25, gu_ne _ _ (by omega)]
          · rw [hO68, au_row, gu_eq]
          · rw [hO68, au_row, gu_ne _ _ (by decide), hO62, au_row, gu_eq]
          · rw [hT49, gu_ne _ _ (by omega), hT24, gu_eq]
          · have := ny k (by rw [hco.1]; simp)
            rw [hO68, au_ne _ _ _ (by omega), hO62, au_ne _ _ _ (by omega), hO51, au_row, gu_eq]
          · rw [hT49, gu_eq]
        · have c17 := mt (nI_leI (by omega) (by omega)).mpr c17
          have hmi := (hcr.2.2.2.2.2.2.1 (i - 1) (by omega)).1
          refine lv_aload_n hx hb dX0_insertSpare_20 rfl (lv_at hl 0 rfl) ?_
          refine g_get hC hP hco.1 rfl inX0 1 (by decide) q1_63 hco.2.1 dX0_insertSpare_21 ?_
          refine lv_iload_n hx hb dX0_insertSpare_24 rfl (lv_at hl 3 rfl) ?_
          refine lv_aload_n hx hb dX0_insertSpare_25 rfl (lv_at hl 0 rfl) ?_
          refine g_get hC hP hco.1 rfl inX0 1 (by decide) q1_63 hco.2.1 dX0_insertSpare_26 ?_
          refine lv_iload_n hx hb dX0_insertSpare_29 rfl (lv_at hl 3 rfl) ?_
          refine lv_iconst (v := nI 1) hx hb dX0_insertSpare_30 (by decide) ?_
          refine lv_isub hx hb dX0_insertSpare_31 ?_
          refine g_topi (y := nI (i - 1)) (nI_subn (by omega)) ?_
          refine g_aald hC hP hco.2.2.2.1 (vp_in_nI (by omega) (by decide)) (v := .ref (ad (i - 1))) (by rw [nI_clamp (by omega), h1, gu_eq]; unfold shR; rw [if_neg (by omega), hcr.2.2.2.2.1 (i - 1) (by omega), if_pos (by omega)]; rfl) dX0_insertSpare_32 ?_
          refine g_aast hC hP hS hTA hco.2.2.2.1 hmi.1 (vp_in_nI (by omega) (by decide)) dX0_insertSpare_33 (fun H70 locs71 hP hS hz73 => ?_)
          rw [show (nI i).toNatClampNeg = i from nI_clamp (by omega)] at hP
          obtain ⟨Q72, hQ72, hP⟩ : ∃ X : gR, X = au Q2 (k + 1) i (some (ad (i - 1))) ∧ gP G T I J X O H70 := ⟨_, rfl, hP⟩
          refine lv_iinc (v := nI (i - 1)) (lv' := [(3, .int (nI (i - 1))), (0, .ref k), (1, .int (nI pl)), (2, .null)]) hx hb dX0_insertSpare_34 hl (k := 3) rfl (nI_dec (by omega)) (by decide) rfl (fun ls hl => ?_)
          refine lv_goto (tgt := 15) hx hb dX0_insertSpare_37 (by decide) ?_
          exact ih15 (i - 1) Q72 (by omega) (by omega) (by rw [hQ72, h1, au_gu]; rw [← shR_s (X := Q (k + 1)) (by omega) (by omega), hcr.2.2.2.2.1 (i - 1) (by omega), if_pos (by omega)]) _ _ hP hS ls (lv_sub hl [1, 2, 3, 0] rfl)
    exact L15 (cnt + 1) cnt Q (by omega) (by omega) (by rw [show shR (Q (k + 1)) cnt cnt = Q (k + 1) from funext fun j => by unfold shR; rw [if_neg (by omega)], gu_self]) _ _ hP hS ls (lv_sub hl [2, 3, 1, 0] rfl)
