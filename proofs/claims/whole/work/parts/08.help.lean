/-! ===== numbers, truth values, a method's end ===== -/
theorem nI_mul (a b : Nat) : nI a * nI b = nI (a * b) := by
  unfold nI
  exact (Int32.ofNat_mul a b).symm
theorem nI_inc (a : Nat) : nI a + Int32.ofInt 1 = nI (a + 1) := by
  have : Int32.ofInt 1 = 1 := by decide
  rw [this, nI_1]
theorem nI_subn {a b : Nat} (h : b ≤ a) : nI a - nI b = nI (a - b) := by
  obtain ⟨c, rfl⟩ := Nat.exists_eq_add_of_le h
  rw [Nat.add_sub_cancel_left, Nat.add_comm b c, ← nI_add]
  exact Int32.add_sub_cancel _ _
theorem nI_i {n N : Nat} (h : n < N) (hN : N < 2 ^ 31) : (nI n).toNatClampNeg = n := nI_clamp (Nat.lt_trans h hN)
/-- a truth value as an int -/
def gb (b : Bool) : Int32 := if b then 1 else 0
theorem gb_f {b : Bool} (h : gb b = 0) : b = false := by cases b <;> simp_all [gb]
theorem gb_t {b : Bool} (h : ¬ gb b = 0) : b = true := by cases b <;> simp_all [gb]
theorem gb_nar (b : Bool) : narrow .boolean (.int (gb b)) = .int (gb b) := by cases b <;> rfl
section GH
variable {p : Program} {l : Launch} {e : Env} {R : Room} {s : State} {m : MethodId} {args : Array Value} {below : List Frame} {meth : Method} {c : Code} {H : Heap} {locs : List Loc} {cells slots : Nat} {Z : State → Prop}
variable {cc : ByteArray} {pc nL : Nat} {ls : Array Slot} {rest : List Value} {A : Nat → Prop} {G : gG} {own nm : String}
theorem g_topi {x y : Int32} (h : x = y) (k : W p l e R s m args below meth c H locs cells slots Z (F0 m pc ls (.int y :: rest))) : W p l e R s m args below meth c H locs cells slots Z (F0 m pc ls (.int x :: rest)) := h ▸ k
theorem g_topl {x y : Int64} (h : x = y) (k : W p l e R s m args below meth c H locs cells slots Z (F0 m pc ls (.long y :: rest))) : W p l e R s m args below meth c H locs cells slots Z (F0 m pc ls (.long x :: rest)) := h ▸ k
theorem g_reti (hC : gC G p m c cc nL s args own meth (some .int) nm) (hs : s.heap = H) {v r : Int32} (hv : v = r) (hdg : decode cc pc = .ok (.ireturn, 1)) : W p l e R s m args below meth c H [] cells slots (MQ below (gQp (some (.int r))) args s cells slots (fun _ => False)) (F0 m pc ls [.int v]) := by
  subst hv
  exact W.iret hC.1.1 hC.1.2.1 hC.2.2.1 (fun t ht _ => ⟨rfl, ht.trans hs.symm⟩) (fun q h => by cases h) hdg hC.2.2.2.1
theorem g_retz (hC : gC G p m c cc nL s args own meth (some .boolean) nm) (hs : s.heap = H) {v : Int32} {r : Bool} (hv : v = gb r) (hdg : decode cc pc = .ok (.ireturn, 1)) : W p l e R s m args below meth c H [] cells slots (MQ below (gQp (some (.int (gb r)))) args s cells slots (fun _ => False)) (F0 m pc ls [.int v]) := by
  subst hv
  exact W.zret hC.1.1 hC.1.2.1 hC.2.2.1 (gb_nar r) (fun t ht _ => ⟨rfl, ht.trans hs.symm⟩) (fun q h => by cases h) hdg hC.2.2.2.1
theorem g_retl (hC : gC G p m c cc nL s args own meth (some .long) nm) (hs : s.heap = H) {v r : Int64} (hv : v = r) (hdg : decode cc pc = .ok (.lreturn, 1)) : W p l e R s m args below meth c H [] cells slots (MQ below (gQp (some (.long r))) args s cells slots (fun _ => False)) (F0 m pc ls [.long v]) := by
  subst hv
  exact W.lret hC.1.1 hC.1.2.1 hC.2.2.1 (fun t ht _ => ⟨rfl, ht.trans hs.symm⟩) (fun q h => by cases h) hdg hC.2.2.2.1
theorem g_reta {C : String} (hC : gC G p m c cc nL s args own meth (some (.object C)) nm) (hs : s.heap = H) {v r : Value} (hv : v = r) (hr : v = .null ∨ ∃ a, v = .ref a) (hdg : decode cc pc = .ok (.areturn, 1)) : W p l e R s m args below meth c H [] cells slots (MQ below (gQp (some r)) args s cells slots (fun _ => False)) (F0 m pc ls [v]) := by
  subst hv
  exact W.aret hC.1.1 hC.1.2.1 hC.2.2.1 (Or.inl ⟨_, rfl⟩) hr (fun t ht _ => ⟨rfl, ht.trans hs.symm⟩) (fun q h => by cases h) hdg hC.2.2.2.1
theorem g_retci (hC : gC G p m c cc nL s args own meth (some .int) nm) (hS : va_S A s.heap H locs) {post : Option Value → Heap → Prop} {v : Int32} (hp : post (some (.int v)) H) (hdg : decode cc pc = .ok (.ireturn, 1)) : W p l e R s m args below meth c H locs cells slots (MQ below (gQc A post) args s cells slots A) (F0 m pc ls [.int v]) :=
  W.iret hC.1.1 hC.1.2.1 hC.2.2.1 (fun t ht _ => ⟨⟨_, rfl, by rw [ht]; exact hp⟩, hS.F ht⟩) hS.2.2 hdg hC.2.2.2.1
theorem g_retcz (hC : gC G p m c cc nL s args own meth (some .boolean) nm) (hS : va_S A s.heap H locs) {post : Option Value → Heap → Prop} {v : Int32} {b : Bool} (hv : v = gb b) (hp : post (some (.int (gb b))) H) (hdg : decode cc pc = .ok (.ireturn, 1)) : W p l e R s m args below meth c H locs cells slots (MQ below (gQc A post) args s cells slots A) (F0 m pc ls [.int v]) := by
  subst hv
  exact W.zret hC.1.1 hC.1.2.1 hC.2.2.1 (gb_nar b) (fun t ht _ => ⟨⟨_, rfl, by rw [ht]; exact hp⟩, hS.F ht⟩) hS.2.2 hdg hC.2.2.2.1
theorem g_retcl (hC : gC G p m c cc nL s args own meth (some .long) nm) (hS : va_S A s.heap H locs) {post : Option Value → Heap → Prop} {v : Int64} (hp : post (some (.long v)) H) (hdg : decode cc pc = .ok (.lreturn, 1)) : W p l e R s m args below meth c H locs cells slots (MQ below (gQc A post) args s cells slots A) (F0 m pc ls [.long v]) :=
  W.lret hC.1.1 hC.1.2.1 hC.2.2.1 (fun t ht _ => ⟨⟨_, rfl, by rw [ht]; exact hp⟩, hS.F ht⟩) hS.2.2 hdg hC.2.2.2.1
theorem g_retca {C : String} (hC : gC G p m c cc nL s args own meth (some (.object C)) nm) (hS : va_S A s.heap H locs) {post : Option Value → Heap → Prop} {v : Value} (hr : v = .null ∨ ∃ a, v = .ref a) (hp : post (some v) H) (hdg : decode cc pc = .ok (.areturn, 1)) : W p l e R s m args below meth c H locs cells slots (MQ below (gQc A post) args s cells slots A) (F0 m pc ls [v]) :=
  W.aret hC.1.1 hC.1.2.1 hC.2.2.1 (Or.inl ⟨_, rfl⟩) hr (fun t ht _ => ⟨⟨_, rfl, by rw [ht]; exact hp⟩, hS.F ht⟩) hS.2.2 hdg hC.2.2.2.1
theorem g_retcv (hC : gC G p m c cc nL s args own meth none nm) (hS : va_S A s.heap H locs) {post : Option Value → Heap → Prop} (hp : post none H) (hdg : decode cc pc = .ok (.return_, 1)) : W p l e R s m args below meth c H locs cells slots (MQ below (gQc A post) args s cells slots A) (F0 m pc ls []) :=
  W.vret hC.1.1 hC.1.2.1 hC.2.2.1 (fun t ht _ => ⟨⟨_, rfl, by rw [ht]; exact hp⟩, hS.F ht⟩) hS.2.2 hdg hC.2.2.2.1
end GH
/-! ===== bits of small numbers ===== -/
theorem g_bit {B k : Nat} (hB : B < 16) (hk : k < 4) : ((nI B >>> (nI k &&& 31)) &&& nI 1) = nI (if B.testBit k then 1 else 0) := by
  have h : ∀ B, B < 16 → ∀ k, k < 4 → ((nI B >>> (nI k &&& 31)) &&& nI 1) = nI (if B.testBit k then 1 else 0) := by decide +kernel
  exact h B hB k hk
theorem g_shl {k : Nat} (hk : k < 5) : (nI 1 <<< (nI k &&& 31)) = nI (2 ^ k) := by
  have h : ∀ k, k < 5 → (nI 1 <<< (nI k &&& 31)) = nI (2 ^ k) := by decide +kernel
  exact h k hk
theorem g_or {a b : Nat} (ha : a < 16) (hb : b < 16) : (nI a ||| nI b) = nI (a ||| b) := by
  have h : ∀ a, a < 16 → ∀ b, b < 16 → (nI a ||| nI b) = nI (a ||| b) := by decide +kernel
  exact h a ha b hb
theorem g_and {a b : Nat} (ha : a < 16) (hb : b < 16) : (nI a &&& nI b) = nI (a &&& b) := by
  have h : ∀ a, a < 16 → ∀ b, b < 16 → (nI a &&& nI b) = nI (a &&& b) := by decide +kernel
  exact h a ha b hb
theorem g_andn {a b : Nat} (ha : a < 16) (hb : b < 16) : (nI a &&& (nI b ^^^ (-1))) = nI (a &&& (15 ^^^ b)) := by
  have h : ∀ a, a < 16 → ∀ b, b < 16 → (nI a &&& (nI b ^^^ (-1))) = nI (a &&& (15 ^^^ b)) := by decide +kernel
  exact h a ha b hb
theorem nI_le0 {n : Nat} (h : n < 2 ^ 31) : nI n ≤ 0 ↔ n = 0 := by
  have := nI_leI h (show 0 < 2 ^ 31 by decide)
  rw [nI_0] at this
  rw [this]; omega
theorem nI_gt0 {n : Nat} (h : n < 2 ^ 31) : 0 < nI n ↔ 0 < n := by
  have := nI_ltI (show 0 < 2 ^ 31 by decide) h
  rw [nI_0] at this
  rw [this]
/-- an int that is none of a switch's cases -/
theorem g_out {x : Int32} {lo hi : Int} (h0 : lo = 0) (h : ¬ (0 ≤ x.toInt ∧ x.toInt ≤ hi)) : x.toInt < lo ∨ hi < x.toInt := by omega
