/-! ===== rows over the memory as functions ===== -/
theorem gS_put {A : Nat → Prop} {H0 H H1 : Heap} {locs : List Loc} {a k : Nat} (h : va_S A H0 H locs) (z : H1.size = H.size) (oq : ∀ q : Nat, q ≠ a → H1[q]? = H[q]?) (ha : A a) : va_S A H0 H1 (locs ++ [⟨a, k⟩]) := h.put z oq ha
section GR
variable {p : Program} {l : Launch} {e : Env} {R : Room} {s : State} {m : MethodId} {args : Array Value} {below : List Frame} {meth : Method} {c : Code} {H : Heap} {locs : List Loc} {cells slots : Nat} {Z : State → Prop}
variable {cc : ByteArray} {pc nL : Nat} {ls : Array Slot} {rest : List Value} {A : Nat → Prop} {a : Nat} {G : gG} {T : gTy} {I : gI} {J : gJ} {Q : gR} {O : gO} {own nm : String} {ret : Option FieldType}
theorem g_get (hC : gC G p m c cc nL s args own meth ret nm) (hP : gP G T I J Q O H) {ci : Nat} (hT : T a = (1, ci)) {C : String} {Tt : u_T} {N : Nat} (hc : vwCl[ci]? = some (C, Tt, N)) (hin : ∀ w ∈ u_ws C Tt N, w ∈ gtb) (k : Nat) (hk : k < N) {index : Nat} (hlink : Cond.fieldLink own index (Tt k).1 (Tt k).2.1 (Tt k).2.2.1 ∈ gtb) {v : Value} (hv : O a k = v) (hdg : decode cc pc = .ok (.getfield index, 3))
    (kk : W p l e R s m args below meth c H locs cells slots Z (F0 m (pc + 3) ls (v :: rest))) : W p l e R s m args below meth c H locs cells slots Z (F0 m pc ls (.ref a :: rest)) := by
  obtain ⟨⟨hx, hb, -, hown, hts⟩, hK, -⟩ := hC
  obtain ⟨r, h1, cell, q1, q2, q3, q4⟩ := (hP a).1 (by rw [hT])
  rw [hT] at h1 q2 q4
  have hr : r = (C, Tt, N) := Option.some.inj (h1.symm.trans hc)
  subst hr
  obtain ⟨hS, hfc, kC, hkC, hkind⟩ := hK.1.1 ci _ hc
  obtain ⟨cf, kf, fi, f, hi, hsl⟩ := hS k hk
  refine W.getf hx hb hown (hts _ hlink) hi (u_facts hfc hkC (u_lays hts hin hk) hi).1 q1 (by rw [q3]; exact fun h => by cases h) (v := v) ?_ rfl rfl hdg kk
  rw [hsl, q4 k hk, hv]
theorem g_put (hC : gC G p m c cc nL s args own meth ret nm) (hP : gP G T I J Q O H) (hS0 : va_S A s.heap H locs) (hTA : ∀ q, (T q).1 ≠ 0 → A q) {ci : Nat} (hT : T a = (1, ci)) {C : String} {Tt : u_T} {N : Nat} (hc : vwCl[ci]? = some (C, Tt, N)) (hin : ∀ w ∈ u_ws C Tt N, w ∈ gtb) (ty0 : Nat → FieldType) (hty : ∀ k, k < N → parseFieldDescriptor (Tt k).2.2.1 = some (ty0 k)) (hnm : ∀ a, a < N → ∀ b, b < N → a ≠ b → (Tt a).2.1 ≠ (Tt b).2.1) (k : Nat) (hk : k < N) {index : Nat} (hlink : Cond.fieldLink own index (Tt k).1 (Tt k).2.1 (Tt k).2.2.1 ∈ gtb) (hfin : (Tt k).2.2.2 = false) {ty : FieldType} {v : Value} (hd : parseFieldDescriptor (Tt k).2.2.1 = some ty) (hn : narrow ty v = v) (hfit : fits ty v = true)
    (hdg : decode cc pc = .ok (.putfield index, 3)) (kk : ∀ (H1 : Heap) (locs1 : List Loc), gP G T I J Q (gu O a (gu (O a) k v)) H1 → va_S A s.heap H1 locs1 → H1.size = H.size → W p l e R s m args below meth c H1 locs1 cells slots Z (F0 m (pc + 3) ls rest)) : W p l e R s m args below meth c H locs cells slots Z (F0 m pc ls (v :: .ref a :: rest)) := by
  obtain ⟨⟨hx, hb, -, hown, hts⟩, hK, -⟩ := hC
  have hap := va_apart (own := own) (D := G.1) hts hin ty0 hty hnm hK.1 hc
  obtain ⟨r, h1, cell, q1, q2, q3, q4⟩ := (hP a).1 (by rw [hT])
  rw [hT] at h1 q2 q4
  have hr : r = (C, Tt, N) := Option.some.inj (h1.symm.trans hc)
  subst hr
  obtain ⟨hS, hfc, kC, hkC, hkind⟩ := hK.1.1 ci _ hc
  obtain ⟨cf, kf, fi, f, hi, hsl⟩ := hS k hk
  have hlay := hts _ (hin _ (u_in_lay hk))
  unfold u_lay at hlay
  rw [if_neg (by rw [hfin]; decide)] at hlay
  have hst := (u_facts hfc hkC (u_lays hts hin hk) hi).1
  have h6 := u_store hfc hkC hkind hlay hi hd hn hfit
  refine W.putK hx hb (f := f) ⟨hown, hts _ hlink, ⟨_, _, _, hi⟩, hst⟩ (by rw [q2]; exact h6) q1 q3 (by rw [hsl]; exact k2_hasslot (q4 k hk)) rfl rfl hdg fun H' e1 e2 e3 => ?_
  rw [hsl] at e1 ⊢
  have ha : (T a).1 ≠ 0 := by rw [hT]; simp
  refine kk H' _ (hP.set a (Nat.le_of_eq e2.symm) (fun q _ h => e3 q h) (fun _ _ => rfl) (fun _ _ => rfl) (fun _ _ => rfl) (fun _ _ => rfl) (fun q h => gu_ne _ _ h) ?_) (hS0.put e2 e3 (hTA a ha)) e2
  rw [hT, gu_eq]
  exact ⟨fun _ => ⟨_, hc, t_OB.to (V := updV (O a) k v) ⟨_, e1, q2, q3, t_set q4 hap hk v⟩ (fun j _ => rfl)⟩, fun h => absurd h (by simp), fun h => absurd h (by simp), fun h => absurd h (by simp), fun h => absurd h (by simp), fun _ => by rw [e2]; exact hP.lt ha⟩
theorem g_putF (hC : gC G p m c cc nL s args own meth ret "<init>") (hP : gP G T I J Q O H) (hS0 : va_S A s.heap H locs) (hTA : ∀ q, (T q).1 ≠ 0 → A q) {ci : Nat} (hT : T a = (1, ci)) {C : String} {Tt : u_T} {N : Nat} (hc : vwCl[ci]? = some (C, Tt, N)) (hin : ∀ w ∈ u_ws C Tt N, w ∈ gtb) (ty0 : Nat → FieldType) (hty : ∀ k, k < N → parseFieldDescriptor (Tt k).2.2.1 = some (ty0 k)) (hnm : ∀ a, a < N → ∀ b, b < N → a ≠ b → (Tt a).2.1 ≠ (Tt b).2.1) (k : Nat) (hk : k < N) {index : Nat} (hlink : Cond.fieldLink own index (Tt k).1 (Tt k).2.1 (Tt k).2.2.1 ∈ gtb) (hfin : (Tt k).2.2.2 = true) (hdecl : (Tt k).1 = own) {ty : FieldType} {v : Value} (hd : parseFieldDescriptor (Tt k).2.2.1 = some ty) (hn : narrow ty v = v) (hfit : fits ty v = true)
    (hdg : decode cc pc = .ok (.putfield index, 3)) (kk : ∀ (H1 : Heap) (locs1 : List Loc), gP G T I J Q (gu O a (gu (O a) k v)) H1 → va_S A s.heap H1 locs1 → H1.size = H.size → W p l e R s m args below meth c H1 locs1 cells slots Z (F0 m (pc + 3) ls rest)) : W p l e R s m args below meth c H locs cells slots Z (F0 m pc ls (v :: .ref a :: rest)) := by
  obtain ⟨⟨hx, hb, -, hown, hts⟩, hK, -, -, hin2⟩ := hC
  have hap := va_apart (own := own) (D := G.1) hts hin ty0 hty hnm hK.1 hc
  obtain ⟨r, h1, cell, q1, q2, q3, q4⟩ := (hP a).1 (by rw [hT])
  rw [hT] at h1 q2 q4
  have hr : r = (C, Tt, N) := Option.some.inj (h1.symm.trans hc)
  subst hr
  obtain ⟨hS, hfc, kC, hkC, hkind⟩ := hK.1.1 ci _ hc
  obtain ⟨cf, kf, fi, f, hi, hsl⟩ := hS k hk
  have hlay := hts _ (hin _ (u_in_lay hk))
  unfold u_lay at hlay
  rw [if_pos hfin] at hlay
  have hst := (u_facts hfc hkC (u_lays hts hin hk) hi).1
  have hcf : m.cls = cf := by
    obtain ⟨_, _, c', _, _, _, -, -, hf', -, -, -, hown2, -⟩ := Cond.laysFinal_spec hlay
    have e1 : c' = cf := by have := hi.symm.trans hf'; simp at this; exact this.1.symm
    rw [hdecl] at hown2
    rw [← e1]; exact Option.some.inj (hown.symm.trans hown2)
  have h6 := u_fits hfc hkC hkind (Or.inr hlay) hi hd hn hfit
  refine W.putFinK hx hb hown (hts _ hlink) hi hst hcf hin2 (by rw [q2]; exact h6) q1 q3 (by rw [hsl]; exact k2_hasslot (q4 k hk)) rfl rfl hdg fun H' e1 e2 e3 => ?_
  rw [hsl] at e1 ⊢
  have ha : (T a).1 ≠ 0 := by rw [hT]; simp
  refine kk H' _ (hP.set a (Nat.le_of_eq e2.symm) (fun q _ h => e3 q h) (fun _ _ => rfl) (fun _ _ => rfl) (fun _ _ => rfl) (fun _ _ => rfl) (fun q h => gu_ne _ _ h) ?_) (hS0.put e2 e3 (hTA a ha)) e2
  rw [hT, gu_eq]
  exact ⟨fun _ => ⟨_, hc, t_OB.to (V := updV (O a) k v) ⟨_, e1, q2, q3, t_set q4 hap hk v⟩ (fun j _ => rfl)⟩, fun h => absurd h (by simp), fun h => absurd h (by simp), fun h => absurd h (by simp), fun h => absurd h (by simp), fun _ => by rw [e2]; exact hP.lt ha⟩
theorem gK_int (hC : gC G p m c cc nL s args own meth ret nm) : ArrOfT s G.2.1 .int := (hC.2.1.1.2 0 _ rfl).1
theorem gK_long (hC : gC G p m c cc nL s args own meth ret nm) : ArrOfT s G.2.2.1 .long := (hC.2.1.1.2 1 _ rfl).1
theorem gK_mix (hC : gC G p m c cc nL s args own meth ret nm) : ArrOfT s G.2.2.2.1 (.object "GameTables$Mix") := (hC.2.1.1.2 2 _ rfl).1
theorem gK_gap (hC : gC G p m c cc nL s args own meth ret nm) : ArrOfT s G.2.2.2.2 (.array .long) := (hC.2.1.1.2 3 _ rfl).1
theorem g_iald (hC : gC G p m c cc nL s args own meth ret nm) (hP : gP G T I J Q O H) {n : Nat} (hT : T a = (2, n)) {i : Int32} (hin : vp_in i n) (hdg : decode cc pc = .ok (.iaload, 1))
    (kk : W p l e R s m args below meth c H locs cells slots Z (F0 m (pc + 1) ls (.int (I a i.toNatClampNeg) :: rest))) : W p l e R s m args below meth c H locs cells slots Z (F0 m pc ls (.int i :: .ref a :: rest)) := by
  have hlt : i.toNatClampNeg < n := Nat.not_le.mp fun q => hin (Or.inr q)
  have hc := (hP a).2.1 (by rw [hT])
  rw [hT] at hc
  exact W.iald (v := .int (I a i.toNatClampNeg)) hC.1.1 hC.1.2.1 hc (gK_int hC n (fun j => .int (I a j))) (fun q => by cases q) (by show ¬ (i < 0 ∨ (arrV _ _ _).slots.size ≤ _); rw [arrV_size]; exact hin) (by show (arrV _ _ _).slots[_]? = _; rw [arrV_read _ _ hlt]) rfl rfl hdg kk
theorem g_lald (hC : gC G p m c cc nL s args own meth ret nm) (hP : gP G T I J Q O H) {n : Nat} (hT : T a = (3, n)) {i : Int32} (hin : vp_in i n) (hdg : decode cc pc = .ok (.laload, 1))
    (kk : W p l e R s m args below meth c H locs cells slots Z (F0 m (pc + 1) ls (.long (J a i.toNatClampNeg) :: rest))) : W p l e R s m args below meth c H locs cells slots Z (F0 m pc ls (.int i :: .ref a :: rest)) := by
  have hlt : i.toNatClampNeg < n := Nat.not_le.mp fun q => hin (Or.inr q)
  have hc := (hP a).2.2.1 (by rw [hT])
  rw [hT] at hc
  exact W.lald (v := .long (J a i.toNatClampNeg)) hC.1.1 hC.1.2.1 hc (gK_long hC n (fun j => .long (J a j))) (fun q => by cases q) (by show ¬ (i < 0 ∨ (arrV _ _ _).slots.size ≤ _); rw [arrV_size]; exact hin) (by show (arrV _ _ _).slots[_]? = _; rw [arrV_read _ _ hlt]) rfl rfl hdg kk
theorem g_aald (hC : gC G p m c cc nL s args own meth ret nm) (hP : gP G T I J Q O H) {n : Nat} (hT : T a = (4, n)) {i : Int32} (hin : vp_in i n) {v : Value} (hv : va_rf (Q a i.toNatClampNeg) = v) (hdg : decode cc pc = .ok (.aaload, 1))
    (kk : W p l e R s m args below meth c H locs cells slots Z (F0 m (pc + 1) ls (v :: rest))) : W p l e R s m args below meth c H locs cells slots Z (F0 m pc ls (.int i :: .ref a :: rest)) := by
  subst hv
  have hlt : i.toNatClampNeg < n := Nat.not_le.mp fun q => hin (Or.inr q)
  have hc := (hP a).2.2.2.1 (by rw [hT])
  rw [hT] at hc
  exact W.aald (v := va_rf (Q a i.toNatClampNeg)) (ty := .object "GameTables$Mix") hC.1.1 hC.1.2.1 hc (gK_mix hC n (fun j => va_rf (Q a j))) rfl (fun q => by cases q) (by show ¬ (i < 0 ∨ (arrV _ _ _).slots.size ≤ _); rw [arrV_size]; exact hin) (by show (arrV _ _ _).slots[_]? = _; rw [arrV_read _ _ hlt]) rfl rfl hdg kk
theorem g_aaldG (hC : gC G p m c cc nL s args own meth ret nm) (hP : gP G T I J Q O H) {n : Nat} (hT : T a = (5, n)) {i : Int32} (hin : vp_in i n) {v : Value} (hv : va_rf (Q a i.toNatClampNeg) = v) (hdg : decode cc pc = .ok (.aaload, 1))
    (kk : W p l e R s m args below meth c H locs cells slots Z (F0 m (pc + 1) ls (v :: rest))) : W p l e R s m args below meth c H locs cells slots Z (F0 m pc ls (.int i :: .ref a :: rest)) := by
  subst hv
  have hlt : i.toNatClampNeg < n := Nat.not_le.mp fun q => hin (Or.inr q)
  have hc := (hP a).2.2.2.2.1 (by rw [hT])
  rw [hT] at hc
  exact W.aald (v := va_rf (Q a i.toNatClampNeg)) (ty := .array .long) hC.1.1 hC.1.2.1 hc (gK_gap hC n (fun j => va_rf (Q a j))) rfl (fun q => by cases q) (by show ¬ (i < 0 ∨ (arrV _ _ _).slots.size ≤ _); rw [arrV_size]; exact hin) (by show (arrV _ _ _).slots[_]? = _; rw [arrV_read _ _ hlt]) rfl rfl hdg kk
theorem g_iast (hC : gC G p m c cc nL s args own meth ret nm) (hP : gP G T I J Q O H) (hS0 : va_S A s.heap H locs) (hTA : ∀ q, (T q).1 ≠ 0 → A q) {n : Nat} (hT : T a = (2, n)) {i x : Int32} (hin : vp_in i n) (hdg : decode cc pc = .ok (.iastore, 1))
    (kk : ∀ (H1 : Heap) (locs1 : List Loc), gP G T (gu I a (gu (I a) i.toNatClampNeg x)) J Q O H1 → va_S A s.heap H1 locs1 → H1.size = H.size → W p l e R s m args below meth c H1 locs1 cells slots Z (F0 m (pc + 1) ls rest)) : W p l e R s m args below meth c H locs cells slots Z (F0 m pc ls (.int x :: .int i :: .ref a :: rest)) := by
  have hc := (hP a).2.1 (by rw [hT])
  rw [hT] at hc
  have ha : (T a).1 ≠ 0 := by rw [hT]; simp
  refine W.iast hC.1.1 hC.1.2.1 hc (gK_int hC n (fun j => .int (I a j))) (fun q => by cases q) (by show ¬ (i < 0 ∨ (arrV _ _ _).slots.size ≤ _); rw [arrV_size]; exact hin) rfl rfl hdg fun H1 e1 e2 e3 => ?_
  refine kk H1 _ (hP.set a (Nat.le_of_eq e2.symm) (fun q _ h => e3 q h) (fun _ _ => rfl) (fun q h => gu_ne _ _ h) (fun _ _ => rfl) (fun _ _ => rfl) (fun _ _ => rfl) ?_) (hS0.put e2 e3 (hTA a ha)) e2
  rw [hT, gu_eq]
  refine ⟨fun h => absurd h (by simp), fun _ => ?_, fun h => absurd h (by simp), fun h => absurd h (by simp), fun h => absurd h (by simp), fun _ => by rw [e2]; exact hP.lt ha⟩
  rw [e1, arrV_store]
  congr 2
  funext q
  by_cases hq : q = i.toNatClampNeg <;> simp [updV, gu, hq]
theorem g_last (hC : gC G p m c cc nL s args own meth ret nm) (hP : gP G T I J Q O H) (hS0 : va_S A s.heap H locs) (hTA : ∀ q, (T q).1 ≠ 0 → A q) {n : Nat} (hT : T a = (3, n)) {i : Int32} {x : Int64} (hin : vp_in i n) (hdg : decode cc pc = .ok (.lastore, 1))
    (kk : ∀ (H1 : Heap) (locs1 : List Loc), gP G T I (gu J a (gu (J a) i.toNatClampNeg x)) Q O H1 → va_S A s.heap H1 locs1 → H1.size = H.size → W p l e R s m args below meth c H1 locs1 cells slots Z (F0 m (pc + 1) ls rest)) : W p l e R s m args below meth c H locs cells slots Z (F0 m pc ls (.long x :: .int i :: .ref a :: rest)) := by
  have hc := (hP a).2.2.1 (by rw [hT])
  rw [hT] at hc
  have ha : (T a).1 ≠ 0 := by rw [hT]; simp
  refine W.last hC.1.1 hC.1.2.1 hc (gK_long hC n (fun j => .long (J a j))) (fun q => by cases q) (by show ¬ (i < 0 ∨ (arrV _ _ _).slots.size ≤ _); rw [arrV_size]; exact hin) rfl rfl hdg fun H1 e1 e2 e3 => ?_
  refine kk H1 _ (hP.set a (Nat.le_of_eq e2.symm) (fun q _ h => e3 q h) (fun _ _ => rfl) (fun _ _ => rfl) (fun q h => gu_ne _ _ h) (fun _ _ => rfl) (fun _ _ => rfl) ?_) (hS0.put e2 e3 (hTA a ha)) e2
  rw [hT, gu_eq]
  refine ⟨fun h => absurd h (by simp), fun h => absurd h (by simp), fun _ => ?_, fun h => absurd h (by simp), fun h => absurd h (by simp), fun _ => by rw [e2]; exact hP.lt ha⟩
  rw [e1, arrV_store]
  congr 2
  funext q
  by_cases hq : q = i.toNatClampNeg <;> simp [updV, gu, hq]
theorem g_aast (hC : gC G p m c cc nL s args own meth ret nm) (hP : gP G T I J Q O H) (hS0 : va_S A s.heap H locs) (hTA : ∀ q, (T q).1 ≠ 0 → A q) {n v : Nat} (hT : T a = (4, n)) (hv : T v = (1, 2)) {i : Int32} (hin : vp_in i n) (hdg : decode cc pc = .ok (.aastore, 1))
    (kk : ∀ (H1 : Heap) (locs1 : List Loc), gP G T I J (gu Q a (gu (Q a) i.toNatClampNeg (some v))) O H1 → va_S A s.heap H1 locs1 → H1.size = H.size → W p l e R s m args below meth c H1 locs1 cells slots Z (F0 m (pc + 1) ls rest)) : W p l e R s m args below meth c H locs cells slots Z (F0 m pc ls (.ref v :: .int i :: .ref a :: rest)) := by
  have hlt : i.toNatClampNeg < n := Nat.not_le.mp fun q => hin (Or.inr q)
  have h0 : ¬ i < 0 := fun q => hin (Or.inl q)
  have hc := (hP a).2.2.2.1 (by rw [hT])
  rw [hT] at hc
  have ha : (T a).1 ≠ 0 := by rw [hT]; simp
  obtain ⟨r', hr', cellV, g1, g2, g3, -⟩ := (hP v).1 (by rw [hv])
  rw [hv] at g2
  have hcls := (hC.2.1.1.1 2 _ rfl).2
  obtain ⟨kA, comp, k1, k2, k3, -⟩ := (hC.2.1.1.2 2 _ rfl).2
  have hcomp : comp = G.1.1 2 := Option.some.inj (k3.symm.trans hcls.1)
  subst hcomp
  obtain ⟨kC, hkC, -⟩ := hcls.2
  refine W.aast hC.1.1 hC.1.2.1 hc (fun q h => by cases h) (fun h => by cases h) k1 k2 rfl hkC ⟨h0, by show _ < (arrV _ _ _).slots.size; rw [arrV_size]; exact hlt⟩ g1 (fun q h => by rw [g3] at h; cases h) (by rw [g2]; exact hkC) (by rw [g2]; exact va_assign hcls) rfl rfl hdg fun H1 e1 e2 e3 => ?_
  refine kk H1 _ (hP.set a (Nat.le_of_eq e2.symm) (fun q _ h => e3 q h) (fun _ _ => rfl) (fun _ _ => rfl) (fun _ _ => rfl) (fun q h => gu_ne _ _ h) (fun _ _ => rfl) ?_) (hS0.put e2 e3 (hTA a ha)) e2
  rw [hT, gu_eq]
  refine ⟨fun h => absurd h (by simp), fun h => absurd h (by simp), fun h => absurd h (by simp), fun _ => ?_, fun h => absurd h (by simp), fun _ => by rw [e2]; exact hP.lt ha⟩
  rw [e1, arrV_store]
  congr 2
  funext q
  by_cases hq : q = i.toNatClampNeg <;> simp [updV, gu, va_rf, hq]
theorem g_alenI (hC : gC G p m c cc nL s args own meth ret nm) (hP : gP G T I J Q O H) {n : Nat} (hT : T a = (2, n)) (hdg : decode cc pc = .ok (.arraylength, 1))
    (kk : W p l e R s m args below meth c H locs cells slots Z (F0 m (pc + 1) ls (.int (nI n) :: rest))) : W p l e R s m args below meth c H locs cells slots Z (F0 m pc ls (.ref a :: rest)) := by
  have hc := (hP a).2.1 (by rw [hT])
  rw [hT] at hc
  exact W.alen (n := nI n) hC.1.1 hC.1.2.1 hc (gK_int hC n (fun j => .int (I a j))) (by rw [arrV_size]; rfl) rfl rfl hdg kk
/-- a call's end: what the method that only reads answers -/
theorem g_cp {st0 : List Value} {r : Option Value} {a : Array Value} (hr : va_Run p l e R s m args below meth c H locs cells slots 0 0 (F0 m pc ls st0) rest (gQp r a) (fun _ => False))
    (kk : W p l e R s m args below meth c H locs cells slots Z (F0 m (pc + 3) ls (r.toList ++ rest))) : W p l e R s m args below meth c H locs cells slots Z (F0 m pc ls st0) := by
  intro T hT X
  obtain ⟨v, st₀, t, T', L, h0, X', hL, e1, e2, ⟨hv, hh⟩, st⟩ := hr T hT X
  cases hv
  obtain ⟨t2, a1, b1⟩ := kk T' (by rw [e1, hh, h0]) (Stand.forget X' (fun q h => (hL q h).elim))
  exact ⟨t2, st t2 a1, b1⟩
/-- a call's end: what the method that writes leaves -/
theorem g_cc {st0 : List Value} {A0 A1 : Nat → Prop} {mc ms : Nat} {post : Option Value → Heap → Prop} {a : Array Value} (hr : va_Run p l e R s m args below meth c H locs cells slots mc ms (F0 m pc ls st0) rest (gQc A1 post a) A1) (hS : va_S A0 s.heap H locs) (hA : ∀ q, A1 q → A0 q)
    (kk : ∀ (r : Option Value) (H1 : Heap) (locs1 : List Loc), post r H1 → va_S A0 s.heap H1 locs1 → H.size ≤ H1.size → (∀ q : Nat, q < H.size → ¬ A1 q → H1[q]? = H[q]?) → W p l e R s m args below meth c H1 locs1 (cells + mc) (slots + ms) Z (F0 m (pc + 3) ls (r.toList ++ rest))) : W p l e R s m args below meth c H locs cells slots Z (F0 m pc ls st0) := by
  intro T hT X
  obtain ⟨v, st₀, t, T', L, h0, X', hL, e1, e2, ⟨⟨r, hv, hp⟩, hz, hk⟩, st⟩ := hr T hT X
  cases hv
  rw [h0] at hz hk
  obtain ⟨t2, a1, b1⟩ := kk v T'.heap (locs ++ L) (by rw [e1]; exact hp)
    ⟨Nat.le_trans hS.1 (by rw [e1]; exact hz), fun q h1 h2 => by rw [e1, hk q (Nat.lt_of_lt_of_le h1 hS.1) (fun z => h2 (hA q z))]; exact hS.2.1 q h1 h2, fun q hq => by
      rcases List.mem_append.mp hq with h | h
      · exact hS.2.2 q h
      · exact hA _ (hL q h)⟩ (by rw [e1]; exact hz) (fun q h1 h2 => by rw [e1]; exact hk q h1 h2) T' rfl X'
  exact ⟨t2, st t2 a1, b1⟩
variable {y : MethodName} {bytes : ByteArray} {maxL index : Nat} {rt : Option FieldType} {rm : Room} {Qc : Array Value → State → Outcome → State → Prop} {mc ms : Nat} {free : Addr → Prop} {b : Nat} {As : List Value}
/-- invokevirtual on an object of class ci -/
theorem g_rV (hC : gC G p m c cc nL s args own meth ret nm) (hP : gP G T I J Q O H) (hM : Met l y (gw y bytes maxL rt) rm (gPc G H (.ref b :: As)) Qc mc ms free) {ci : Nat} (hT : T b = (1, ci)) {Tt : u_T} {N : Nat} (hc : vwCl[ci]? = some (y.cls, Tt, N)) (hq : Cond.code y bytes maxL rt ∈ gtb ∧ Cond.methodLink own index y ∈ gtb ∧ Cond.instanceMethod y ∈ gtb ∧ Cond.selects y.cls y y ∈ gtb ∧ Cond.initialized y.cls ∈ gtb)
    (hd : y.cls ≠ "java/lang/invoke/MethodHandle" ∧ y.cls ≠ "java/lang/invoke/VarHandle" ∧ (parseMethodDescriptor y.desc).map (fun d => d.parameters.length) = some As.length) (hR : rm.frames + 1 ≤ R.frames ∧ 8 + (maxL + 11) + rm.locals ≤ R.locals ∧ rm.cells = mc ∧ rm.slots = ms)
    (hls : ls.size = nL) {st0 : List Value} (hst : st0 = As.reverse ++ .ref b :: rest) (hrm : (rest.map fun v => v.category).sum ≤ 8) (hdg : decode cc pc = .ok (.invokevirtual index, 3)) (hf : cells + mc ≤ R.cells ∧ slots + ms ≤ R.slots) :
    va_Run p l e R s m args below meth c H locs cells slots mc ms (F0 m pc ls st0) rest (Qc (Value.ref b :: As).toArray) free := by
  obtain ⟨q', h1, cell, g1, g2, g3, -⟩ := (hP b).1 (by rw [hT])
  rw [hT] at g2
  have hcl := (hC.2.1.1.1 ci _ hc).2.1
  exact va_runV (As := As) (rest := rest) hC.1 hM ⟨callB_of As.length hC.1.2.2.2.2 (g_good hq.1) rfl hR.2.2.1 hR.2.2.2 (hC.1.2.2.2.2 _ hq.2.2.2.2) (hC.1.2.2.2.2 _ hq.2.1) hd ⟨hR.1, hR.2.1⟩, hC.1.2.2.2.2 _ hq.2.2.1, hC.1.2.2.2.2 _ hq.2.2.2.1⟩ ⟨gPc.blind, ⟨cell, g1, by rw [g3]; rfl, by rw [g2]; exact hcl⟩, fun U hU hW => ⟨rfl, hU, hC.2.1.warm hW⟩⟩ rfl rfl hls hst (lv_room hrm) hdg hf
/-- invokestatic -/
theorem g_rS (hC : gC G p m c cc nL s args own meth ret nm) (hM : Met l y (gw y bytes maxL rt) rm (gPc G H As) Qc mc ms free) (hq : Cond.code y bytes maxL rt ∈ gtb ∧ Cond.methodLink own index y ∈ gtb ∧ Cond.static y ∈ gtb ∧ Cond.initialized y.cls ∈ gtb)
    (hd : y.cls ≠ "java/lang/invoke/MethodHandle" ∧ y.cls ≠ "java/lang/invoke/VarHandle" ∧ (parseMethodDescriptor y.desc).map (fun d => d.parameters.length) = some As.length) (hR : rm.frames + 1 ≤ R.frames ∧ 8 + (maxL + 11) + rm.locals ≤ R.locals ∧ rm.cells = mc ∧ rm.slots = ms)
    (hls : ls.size = nL) {st0 : List Value} (hst : st0 = As.reverse ++ rest) (hrm : (rest.map fun v => v.category).sum ≤ 8) (hdg : decode cc pc = .ok (.invokestatic index, 3)) (hf : cells + mc ≤ R.cells ∧ slots + ms ≤ R.slots) :
    va_Run p l e R s m args below meth c H locs cells slots mc ms (F0 m pc ls st0) rest (Qc As.toArray) free :=
  va_runS (As := As) (rest := rest) hC.1 hM ⟨callB_of As.length hC.1.2.2.2.2 (g_good hq.1) rfl hR.2.2.1 hR.2.2.2 (hC.1.2.2.2.2 _ hq.2.2.2) (hC.1.2.2.2.2 _ hq.2.1) hd ⟨hR.1, hR.2.1⟩, hC.1.2.2.2.2 _ hq.2.2.1⟩ ⟨gPc.blind, fun U hU hW => ⟨rfl, hU, hC.2.1.warm hW⟩⟩ rfl rfl hls hst (lv_room hrm) hdg hf
/-- invokestatic of a nest mate's private method -/
theorem g_rSN (hC : gC G p m c cc nL s args own meth ret nm) (hM : Met l y (gw y bytes maxL rt) rm (gPc G H As) Qc mc ms free) (hq : Cond.code y bytes maxL rt ∈ gtb ∧ (own, index, y) ∈ gnest ∧ Cond.static y ∈ gtb ∧ Cond.initialized y.cls ∈ gtb)
    (hd : y.cls ≠ "java/lang/invoke/MethodHandle" ∧ y.cls ≠ "java/lang/invoke/VarHandle" ∧ (parseMethodDescriptor y.desc).map (fun d => d.parameters.length) = some As.length) (hR : rm.frames + 1 ≤ R.frames ∧ 8 + (maxL + 11) + rm.locals ≤ R.locals ∧ rm.cells = mc ∧ rm.slots = ms)
    (hls : ls.size = nL) {st0 : List Value} (hst : st0 = As.reverse ++ rest) (hrm : (rest.map fun v => v.category).sum ≤ 8) (hdg : decode cc pc = .ok (.invokestatic index, 3)) (hf : cells + mc ≤ R.cells ∧ slots + ms ≤ R.slots) :
    va_Run p l e R s m args below meth c H locs cells slots mc ms (F0 m pc ls st0) rest (Qc As.toArray) free :=
  va_runSN (As := As) (rest := rest) hC.1 hM ⟨va_cnB As.length hC.1.2.2.2.2 (g_good hq.1) rfl hR.2.2.1 hR.2.2.2 (hC.2.1.2.1 _ hq.2.1) (hC.1.2.2.2.2 _ hq.2.2.2) hd ⟨hR.1, hR.2.1⟩, hC.1.2.2.2.2 _ hq.2.2.1, trivial⟩ ⟨gPc.blind, fun U hU hW => ⟨rfl, hU, hC.2.1.warm hW⟩⟩ rfl rfl hls hst (lv_room hrm) hdg hf
/-- invokespecial of a nest mate's private constructor -/
theorem g_rIN (hC : gC G p m c cc nL s args own meth ret nm) (hM : Met l y (gw y bytes maxL none) rm (gPc G H (.ref b :: As)) Qc mc ms free) (hq : Cond.code y bytes maxL none ∈ gtb ∧ (own, index, y) ∈ gnest ∧ Cond.instanceMethod y ∈ gtb ∧ Cond.initialized y.cls ∈ gtb) (hyn : y.name = "<init>")
    (hd : y.cls ≠ "java/lang/invoke/MethodHandle" ∧ y.cls ≠ "java/lang/invoke/VarHandle" ∧ (parseMethodDescriptor y.desc).map (fun d => d.parameters.length) = some As.length) (hR : rm.frames + 1 ≤ R.frames ∧ 8 + (maxL + 11) + rm.locals ≤ R.locals ∧ rm.cells = mc ∧ rm.slots = ms)
    (hls : ls.size = nL) {st0 : List Value} (hst : st0 = As.reverse ++ .ref b :: rest) (hrm : (rest.map fun v => v.category).sum ≤ 8) (hdg : decode cc pc = .ok (.invokespecial index, 3)) (hf : cells + mc ≤ R.cells ∧ slots + ms ≤ R.slots) :
    va_Run p l e R s m args below meth c H locs cells slots mc ms (F0 m pc ls st0) rest (Qc (Value.ref b :: As).toArray) free :=
  va_runIN (As := As) (rest := rest) hC.1 hM ⟨va_cnB As.length hC.1.2.2.2.2 (g_good hq.1) rfl hR.2.2.1 hR.2.2.2 (hC.2.1.2.1 _ hq.2.1) (hC.1.2.2.2.2 _ hq.2.2.2) hd ⟨hR.1, hR.2.1⟩, hyn, hC.1.2.2.2.2 _ hq.2.2.1⟩ ⟨gPc.blind, fun U hU hW => ⟨rfl, hU, hC.2.1.warm hW⟩⟩ rfl rfl hls hst (lv_room hrm) hdg hf
/-- invokespecial of a constructor that can be seen -/
theorem g_rI (hC : gC G p m c cc nL s args own meth ret nm) (hM : Met l y (gw y bytes maxL none) rm (gPc G H (.ref b :: As)) Qc mc ms free) (hq : Cond.code y bytes maxL none ∈ gtb ∧ Cond.methodLink own index y ∈ gtb ∧ Cond.instanceMethod y ∈ gtb ∧ Cond.initialized y.cls ∈ gtb) (hyn : y.name = "<init>")
    (hd : y.cls ≠ "java/lang/invoke/MethodHandle" ∧ y.cls ≠ "java/lang/invoke/VarHandle" ∧ (parseMethodDescriptor y.desc).map (fun d => d.parameters.length) = some As.length) (hR : rm.frames + 1 ≤ R.frames ∧ 8 + (maxL + 11) + rm.locals ≤ R.locals ∧ rm.cells = mc ∧ rm.slots = ms)
    (hls : ls.size = nL) {st0 : List Value} (hst : st0 = As.reverse ++ .ref b :: rest) (hrm : (rest.map fun v => v.category).sum ≤ 8) (hdg : decode cc pc = .ok (.invokespecial index, 3)) (hf : cells + mc ≤ R.cells ∧ slots + ms ≤ R.slots) :
    va_Run p l e R s m args below meth c H locs cells slots mc ms (F0 m pc ls st0) rest (Qc (Value.ref b :: As).toArray) free :=
  va_runI (As := As) (rest := rest) hC.1 hM ⟨callB_of As.length hC.1.2.2.2.2 (g_good hq.1) rfl hR.2.2.1 hR.2.2.2 (hC.1.2.2.2.2 _ hq.2.2.2) (hC.1.2.2.2.2 _ hq.2.1) hd ⟨hR.1, hR.2.1⟩, hyn, hC.1.2.2.2.2 _ hq.2.2.1⟩ ⟨gPc.blind, fun U hU hW => ⟨rfl, hU, hC.2.1.warm hW⟩⟩ rfl rfl hls hst (lv_room hrm) hdg hf
end GR
