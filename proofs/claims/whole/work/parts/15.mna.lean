/-! ===== new long[3][4] ===== -/
theorem vr_outer (c : ClassId) (N h0 : Nat) : ∀ i : Nat, Jvm.Free.Multi.outerC c N h0 i = arrV c N (fun j => va_rf (if j < i then some (h0 + 1 + j) else none))
  | 0 => by
    show ({ cls := c, slots := Array.replicate N .null, vm := .none } : Cell) = _
    rw [arrV_new]
    refine congrArg (arrV c N) (funext fun j => ?_)
    simp [va_rf]
  | i + 1 => by
    show (Jvm.Free.Multi.outerC c N h0 i).setSlot i (.ref (h0 + 1 + i)) = _
    rw [vr_outer c N h0 i, arrV_store]
    refine congrArg (arrV c N) (funext fun j => ?_)
    by_cases e : j = i
    · subst e
      simp [updV, va_rf]
    · by_cases h : j < i
      · simp [updV, e, h, Nat.lt_succ_of_lt h]
      · simp [updV, e, h, show ¬ j < i + 1 by omega]
def mnT (T : gTy) (h : Nat) : gTy := gu (gu (gu (gu T h (5, 3)) (h + 1) (3, 4)) (h + 2) (3, 4)) (h + 3) (3, 4)
def mnJ (J : gJ) (h : Nat) : gJ := gu (gu (gu J (h + 1) (fun _ => 0)) (h + 2) (fun _ => 0)) (h + 3) (fun _ => 0)
def mnQ (Q : gR) (h : Nat) : gR := gu Q h (fun j => if j < 3 then some (h + 1 + j) else none)
section GM
variable {p : Program} {l : Launch} {e : Env} {R : Room} {s : State} {m : MethodId} {args : Array Value} {below : List Frame} {meth : Method} {c : Code} {H : Heap} {locs : List Loc} {cells slots : Nat} {Z : State → Prop}
variable {cc : ByteArray} {pc nL : Nat} {ls : Array Slot} {rest : List Value} {A : Nat → Prop} {G : gG} {T : gTy} {I : gI} {J : gJ} {Q : gR} {O : gO} {own nm : String} {ret : Option FieldType}
theorem g_mna (hC : gC G p m c cc nL s args own meth ret nm) (hP : gP G T I J Q O H) (hS : va_S A s.heap H locs) {index : Nat} (hq : Cond.classLink own index "[[J" ∈ gtb ∧ Cond.arrayClass .long ∈ gtb) (hcells : cells + 4 ≤ R.cells) (hslots : slots + 15 ≤ R.slots) (hdg : decode cc pc = .ok (.multianewarray index 2, 4))
    (kk : ∀ H1 : Heap, gP G (mnT T H.size) I (mnJ J H.size) (mnQ Q H.size) O H1 → va_S A s.heap H1 locs → H1.size = H.size + 4 → W p l e R s m args below meth c H1 locs (cells + 4) (slots + 15) Z (F0 m (pc + 4) ls (.ref H.size :: rest))) : W p l e R s m args below meth c H locs cells slots Z (F0 m pc ls (.int (nI 4) :: .int (nI 3) :: rest)) := by
  intro T0 hT Xs
  have c3 : (nI 3).toNatClampNeg = 3 := nI_clamp (by decide)
  have c4 : (nI 4).toNatClampNeg = 4 := nI_clamp (by decide)
  obtain ⟨vm₁, cA, comp, -, fA, fC, hO, -, X', step⟩ := Xs.multianewarray2F hC.1.1 hC.1.2.2.2.1 (ty := .long) (hC.1.2.2.2.2 _ hq.1) (gOv.use hC.2.1.2.2.2) (hC.1.2.2.2.2 _ hq.2) (g := F0 m pc ls (.int (nI 4) :: .int (nI 3) :: rest)) rfl (by rw [hC.1.2.1]; exact hdg) rfl (nI_pos (by decide)) (nI_pos (by decide)) (by rw [c3]; decide) (by rw [c4]; decide) (by rw [c4]; decide) rfl rfl (by rw [c3]; omega) (by rw [c3, c4]; omega)
  have ecA : cA = G.2.2.2.2 := Option.some.inj (fA.symm.trans (hC.2.1.1.2 3 _ rfl).2)
  have eco : comp = G.2.2.1 := Option.some.inj (fC.symm.trans (hC.2.1.1.2 1 _ rfl).2)
  subst ecA
  subst eco
  rw [c3, c4] at X' step
  generalize hF : Jvm.Free.Multi.fill (T0.setVm vm₁) G.2.2.2.2 G.2.2.1 3 4 (defaultValue .long) 3 = F at X' step
  have hTh : (T0.setVm vm₁).heap = H := hT
  obtain ⟨f1, f2, -, -⟩ := Jvm.Free.Multi.fill_facts (T0.setVm vm₁) G.2.2.2.2 G.2.2.1 3 4 (defaultValue .long) 3
  rw [hF, hTh] at f1 f2
  have hold : ∀ x : Nat, x < H.size → F.heap[x]? = H[x]? := fun x hx => by
    have := Jvm.Free.Multi.fill_old (T0.setVm vm₁) G.2.2.2.2 G.2.2.1 3 4 (defaultValue .long) (a := x) (by rw [hTh]; exact hx) 3
    rw [hF, hTh] at this
    exact this
  have hrow : ∀ j : Nat, j < 3 → F.heap[H.size + 1 + j]? = some (arrV G.2.2.1 4 (fun _ => .long 0)) := fun j hj => by
    have := Jvm.Free.Multi.fill_inner (T0.setVm vm₁) G.2.2.2.2 G.2.2.1 3 4 (defaultValue .long) 3 j hj
    rw [hF, hTh] at this
    rw [this]
    exact congrArg some (arrV_new _ _ _)
  rw [vr_outer] at f2
  have hP4 : gP G (mnT T H.size) I (mnJ J H.size) (mnQ Q H.size) O F.heap := by
    intro q
    by_cases h0 : q < H.size
    · have t : mnT T H.size q = T q := by
        unfold mnT; rw [gu_ne _ _ (by omega), gu_ne _ _ (by omega), gu_ne _ _ (by omega), gu_ne _ _ (by omega)]
      have j : mnJ J H.size q = J q := by
        unfold mnJ; rw [gu_ne _ _ (by omega), gu_ne _ _ (by omega), gu_ne _ _ (by omega)]
      have r : mnQ Q H.size q = Q q := by
        unfold mnQ; rw [gu_ne _ _ (by omega)]
      rw [t, j, r]
      exact (hP q).kept (hold q h0) (by omega)
    · by_cases h1 : q = H.size
      · subst h1
        have t : mnT T H.size H.size = (5, 3) := by
          unfold mnT; rw [gu_ne _ _ (by omega), gu_ne _ _ (by omega), gu_ne _ _ (by omega), gu_eq]
        have r : mnQ Q H.size H.size = (fun j => if j < 3 then some (H.size + 1 + j) else none) := gu_eq _ _ _
        rw [t, r]
        exact ⟨fun h => absurd h (by simp), fun h => absurd h (by simp), fun h => absurd h (by simp), fun h => absurd h (by simp), fun _ => f2, fun _ => by omega⟩
      · by_cases h2 : q < H.size + 4
        · have t : mnT T H.size q = (3, 4) := by
            unfold mnT
            rcases (show q = H.size + 1 ∨ q = H.size + 2 ∨ q = H.size + 3 by omega) with e | e | e <;> simp [gu, e]
          have j : mnJ J H.size q = fun _ => 0 := by
            unfold mnJ
            rcases (show q = H.size + 1 ∨ q = H.size + 2 ∨ q = H.size + 3 by omega) with e | e | e <;> simp [gu, e]
          have e := hrow (q - (H.size + 1)) (by omega)
          rw [show H.size + 1 + (q - (H.size + 1)) = q by omega] at e
          rw [t, j]
          exact ⟨fun h => absurd h (by simp), fun h => absurd h (by simp), fun _ => e, fun h => absurd h (by simp), fun h => absurd h (by simp), fun _ => by omega⟩
        · have t : mnT T H.size q = T q := by
            unfold mnT; rw [gu_ne _ _ (by omega), gu_ne _ _ (by omega), gu_ne _ _ (by omega), gu_ne _ _ (by omega)]
          refine gAt.none ?_
          rw [t]
          by_cases h3 : (T q).1 = 0
          · exact h3
          · exact absurd (hP.lt h3) (by omega)
  obtain ⟨t, a1, b1⟩ := kk F.heap hP4 (gS_new hS (by omega) hold) f1 F rfl X'
  refine ⟨t, step t ?_, b1⟩
  rw [hT]
  exact a1
end GM
