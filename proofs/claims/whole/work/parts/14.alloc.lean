/-! ===== new objects and arrays ===== -/
section GA
variable {p : Program} {l : Launch} {e : Env} {R : Room} {s : State} {m : MethodId} {args : Array Value} {below : List Frame} {meth : Method} {c : Code} {H : Heap} {locs : List Loc} {cells slots : Nat} {Z : State → Prop}
variable {cc : ByteArray} {pc nL : Nat} {ls : Array Slot} {rest : List Value} {A : Nat → Prop} {G : gG} {T : gTy} {I : gI} {J : gJ} {Q : gR} {O : gO} {own nm : String} {ret : Option FieldType}
theorem gS_new {A : Nat → Prop} {H0 H H1 : Heap} {locs : List Loc} (h : va_S A H0 H locs) (z : H.size ≤ H1.size) (oq : ∀ q : Nat, q < H.size → H1[q]? = H[q]?) : va_S A H0 H1 locs := ⟨Nat.le_trans h.1 z, fun q h1 h2 => (oq q (Nat.lt_of_lt_of_le h1 h.1)).trans (h.2.1 q h1 h2), h.2.2⟩
theorem g_new (hC : gC G p m c cc nL s args own meth ret nm) (hP : gP G T I J Q O H) (hS : va_S A s.heap H locs) {ci : Nat} {C : String} {Tt : u_T} {N index : Nat} (hc : vwCl[ci]? = some (C, Tt, N)) (hin : ∀ w ∈ u_ws C Tt N, w ∈ gtb) (ty : Nat → FieldType) (hty : ∀ k, k < N → parseFieldDescriptor (Tt k).2.2.1 = some (ty k)) (hq : Cond.classLink own index C ∈ gtb ∧ Cond.instantiable C N ∈ gtb ∧ Cond.initialized C ∈ gtb) (Vf : Nat → Value) (hV : ∀ j, j < N → defaultValue (ty j) = Vf j) (hcells : cells + 1 ≤ R.cells) (hslots : slots + N ≤ R.slots) (hdg : decode cc pc = .ok (.new index, 3))
    (kk : ∀ H1 : Heap, gP G (gu T H.size (1, ci)) I J Q (gu O H.size Vf) H1 → va_S A s.heap H1 locs → H1.size = H.size + 1 → W p l e R s m args below meth c H1 locs (cells + 1) (slots + N) Z (F0 m (pc + 3) ls (.ref H.size :: rest))) : W p l e R s m args below meth c H locs cells slots Z (F0 m pc ls rest) := by
  obtain ⟨⟨hx, hb, -, hown, hts⟩, hK, -⟩ := hC
  have hKn := hK.1.1 ci _ hc
  refine W.newcK hx hb hown (hts _ hq.1) (hts _ hq.2.1) (hts _ hq.2.2) rfl hdg hcells hslots hKn.2.1 rfl fun H1 kC hkC e1 z1 o1 => ?_
  refine kk H1 (hP.set H.size (by omega) (fun q h _ => o1 q h) (fun q h => gu_ne _ _ h) (fun _ _ => rfl) (fun _ _ => rfl) (fun _ _ => rfl) (fun q h => gu_ne _ _ h) ?_) (gS_new hS (by omega) o1) z1
  rw [gu_eq, gu_eq]
  exact ⟨fun _ => ⟨_, hc, (u_born ty hts hin hKn hkC e1 hty).to hV⟩, fun h => absurd h (by simp), fun h => absurd h (by simp), fun h => absurd h (by simp), fun h => absurd h (by simp), fun _ => by omega⟩
theorem g_newI (hC : gC G p m c cc nL s args own meth ret nm) (hP : gP G T I J Q O H) (hS : va_S A s.heap H locs) (hq : Cond.arrayClass .int ∈ gtb) {n : Nat} (hn : n < 2 ^ 20) (hcells : cells + 1 ≤ R.cells) (hslots : slots + n ≤ R.slots) (hdg : decode cc pc = .ok (.newarray .int, 2))
    (kk : ∀ H1 : Heap, gP G (gu T H.size (2, n)) (gu I H.size (fun _ => 0)) J Q O H1 → va_S A s.heap H1 locs → H1.size = H.size + 1 → W p l e R s m args below meth c H1 locs (cells + 1) (slots + n) Z (F0 m (pc + 2) ls (.ref H.size :: rest))) : W p l e R s m args below meth c H locs cells slots Z (F0 m pc ls (.int (nI n) :: rest)) := by
  refine va_newaK (atype := .int) hC.1.1 hC.1.2.1 (hC.1.2.2.2.2 _ hq) rfl hdg rfl (nI_pos (by omega)) (nI_clamp (by omega)) (by show n * 4 ≤ _; omega) hcells hslots rfl fun H1 cA e1 z1 o1 hAr hNm => ?_
  have hcy : cA = G.2.1 := Option.some.inj (hNm.symm.trans (hC.2.1.1.2 0 _ rfl).2)
  subst hcy
  refine kk H1 (hP.set H.size (by omega) (fun q h _ => o1 q h) (fun q h => gu_ne _ _ h) (fun q h => gu_ne _ _ h) (fun _ _ => rfl) (fun _ _ => rfl) (fun _ _ => rfl) ?_) (gS_new hS (by omega) o1) z1
  rw [gu_eq, gu_eq]
  exact ⟨fun h => absurd h (by simp), fun _ => e1, fun h => absurd h (by simp), fun h => absurd h (by simp), fun h => absurd h (by simp), fun _ => by omega⟩
theorem g_newJ (hC : gC G p m c cc nL s args own meth ret nm) (hP : gP G T I J Q O H) (hS : va_S A s.heap H locs) (hq : Cond.arrayClass .long ∈ gtb) {n : Nat} (hn : n < 2 ^ 20) (hcells : cells + 1 ≤ R.cells) (hslots : slots + n ≤ R.slots) (hdg : decode cc pc = .ok (.newarray .long, 2))
    (kk : ∀ H1 : Heap, gP G (gu T H.size (3, n)) I (gu J H.size (fun _ => 0)) Q O H1 → va_S A s.heap H1 locs → H1.size = H.size + 1 → W p l e R s m args below meth c H1 locs (cells + 1) (slots + n) Z (F0 m (pc + 2) ls (.ref H.size :: rest))) : W p l e R s m args below meth c H locs cells slots Z (F0 m pc ls (.int (nI n) :: rest)) := by
  refine va_newaK (atype := .long) hC.1.1 hC.1.2.1 (hC.1.2.2.2.2 _ hq) rfl hdg rfl (nI_pos (by omega)) (nI_clamp (by omega)) (by show n * 8 ≤ _; omega) hcells hslots rfl fun H1 cA e1 z1 o1 hAr hNm => ?_
  have hcy : cA = G.2.2.1 := Option.some.inj (hNm.symm.trans (hC.2.1.1.2 1 _ rfl).2)
  subst hcy
  refine kk H1 (hP.set H.size (by omega) (fun q h _ => o1 q h) (fun q h => gu_ne _ _ h) (fun _ _ => rfl) (fun q h => gu_ne _ _ h) (fun _ _ => rfl) (fun _ _ => rfl) ?_) (gS_new hS (by omega) o1) z1
  rw [gu_eq, gu_eq]
  exact ⟨fun h => absurd h (by simp), fun h => absurd h (by simp), fun _ => e1, fun h => absurd h (by simp), fun h => absurd h (by simp), fun _ => by omega⟩
theorem g_newQ (hC : gC G p m c cc nL s args own meth ret nm) (hP : gP G T I J Q O H) (hS : va_S A s.heap H locs) {index : Nat} (hq : Cond.classLink own index "GameTables$Mix" ∈ gtb) {n : Nat} (hn : n < 2 ^ 20) (hcells : cells + 1 ≤ R.cells) (hslots : slots + n ≤ R.slots) (hdg : decode cc pc = .ok (.anewarray index, 3))
    (kk : ∀ H1 : Heap, gP G (gu T H.size (4, n)) I J (gu Q H.size (fun _ => none)) O H1 → va_S A s.heap H1 locs → H1.size = H.size + 1 → W p l e R s m args below meth c H1 locs (cells + 1) (slots + n) Z (F0 m (pc + 3) ls (.ref H.size :: rest))) : W p l e R s m args below meth c H locs cells slots Z (F0 m pc ls (.int (nI n) :: rest)) := by
  have hcl : (nI n).toNatClampNeg = n := nI_clamp (by omega)
  refine W.anew hC.1.1 hC.1.2.1 hC.1.2.2.2.1 (hC.1.2.2.2.2 _ hq) (gOv.use hC.2.1.2.2.1) rfl hdg rfl (nI_pos (by omega)) (by rw [hcl]; omega) hcells (by rw [hcl]; exact hslots) fun cA kA comp f1 f2 f3 f4 => ?_
  rw [hcl]
  generalize hH1 : H.push ({ cls := cA, slots := Array.replicate n .null, vm := .none } : Cell) = H1
  have z1 : H1.size = H.size + 1 := by rw [← hH1, Array.size_push]
  have e1 : H1[H.size]? = some (arrV cA n (fun _ => .null)) := by rw [← hH1, Array.getElem?_push_size, ← arrV_new]
  have o1 : ∀ q : Nat, q < H.size → H1[q]? = H[q]? := fun q hq => by rw [← hH1, Array.getElem?_push, if_neg (Nat.ne_of_lt hq)]
  obtain ⟨kA', comp', k1, k2, k3, k4⟩ := (hC.2.1.1.2 2 _ rfl).2
  have hcy : cA = G.2.2.2.1 := Option.some.inj (f1.symm.trans k4)
  subst hcy
  refine kk H1 (hP.set H.size (by omega) (fun q h _ => o1 q h) (fun q h => gu_ne _ _ h) (fun _ _ => rfl) (fun _ _ => rfl) (fun q h => gu_ne _ _ h) (fun _ _ => rfl) ?_) (gS_new hS (by omega) o1) z1
  rw [gu_eq, gu_eq]
  exact ⟨fun h => absurd h (by simp), fun h => absurd h (by simp), fun h => absurd h (by simp), fun _ => e1, fun h => absurd h (by simp), fun _ => by omega⟩
end GA
