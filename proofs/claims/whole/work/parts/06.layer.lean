/-! ===== the memory as functions of addresses ===== -/
/-- f, but v at k -/
def gu {α : Type} (f : Nat → α) (k : Nat) (v : α) : Nat → α := fun j => if j = k then v else f j
theorem gu_eq {α : Type} (f : Nat → α) (k : Nat) (v : α) : gu f k v k = v := if_pos rfl
theorem gu_ne {α : Type} (f : Nat → α) {k j : Nat} (v : α) (h : j ≠ k) : gu f k v j = f j := if_neg h
theorem gu_gu {α : Type} (f : Nat → α) (k : Nat) (v w : α) : gu (gu f k v) k w = gu f k w := by
  funext j
  by_cases h : j = k <;> simp [gu, h]
theorem gu_self {α : Type} (f : Nat → α) (k : Nat) : gu f k (f k) = f := by
  funext j
  by_cases h : j = k <;> simp [gu, h]
theorem gu_comm {α : Type} (f : Nat → α) {k j : Nat} (v w : α) (h : k ≠ j) : gu (gu f k v) j w = gu (gu f j w) k v := by
  funext i
  by_cases h1 : i = k <;> by_cases h2 : i = j <;> simp [gu, h1, h2]
  · exact absurd (h1.symm.trans h2) h
  · intro h3; exact absurd h3 h
  · intro h3; exact absurd h3.symm h
/-- tables: objects' classes and slots, and the array classes of int, long, Mix, long[] -/
abbrev gG : Type := va_G × ClassId × ClassId × ClassId × ClassId
abbrev gTy : Type := Nat → Nat × Nat
abbrev gI : Type := Nat → Nat → Int32
abbrev gJ : Type := Nat → Nat → Int64
abbrev gR : Type := Nat → Nat → Option Nat
abbrev gO : Type := Nat → Nat → Value
/-- a cell of kind t: 1 an object of class t.2, 2 int[t.2], 3 long[t.2], 4 Mix[t.2], 5 long[t.2][] -/
def gAt (G : gG) (t : Nat × Nat) (I : Nat → Int32) (J : Nat → Int64) (Q : Nat → Option Nat) (O : Nat → Value) (H : Heap) (a : Nat) : Prop :=
  (t.1 = 1 → ∃ r : vw_C, vwCl[t.2]? = some r ∧ t_OB a (G.1.1 t.2) r.2.2 (G.1.2 t.2) H O) ∧
  (t.1 = 2 → H[a]? = some (arrV G.2.1 t.2 (fun j => .int (I j)))) ∧
  (t.1 = 3 → H[a]? = some (arrV G.2.2.1 t.2 (fun j => .long (J j)))) ∧
  (t.1 = 4 → H[a]? = some (arrV G.2.2.2.1 t.2 (fun j => va_rf (Q j)))) ∧
  (t.1 = 5 → H[a]? = some (arrV G.2.2.2.2 t.2 (fun j => va_rf (Q j)))) ∧ (t.1 ≠ 0 → a < H.size)
def gP (G : gG) (T : gTy) (I : gI) (J : gJ) (Q : gR) (O : gO) (H : Heap) : Prop := ∀ a, gAt G (T a) (I a) (J a) (Q a) (O a) H a
theorem gAt.kept {G : gG} {t : Nat × Nat} {I : Nat → Int32} {J : Nat → Int64} {Q : Nat → Option Nat} {O : Nat → Value} {H H1 : Heap} {a : Nat} (h : gAt G t I J Q O H a) (hq : H1[a]? = H[a]?) (hz : H.size ≤ H1.size) : gAt G t I J Q O H1 a := by
  obtain ⟨h1, h2, h3, h4, h5, h6⟩ := h
  refine ⟨fun e => ?_, fun e => hq.trans (h2 e), fun e => hq.trans (h3 e), fun e => hq.trans (h4 e), fun e => hq.trans (h5 e), fun e => Nat.lt_of_lt_of_le (h6 e) hz⟩
  obtain ⟨r, g1, g2⟩ := h1 e
  exact ⟨r, g1, g2.kept hq⟩
theorem gAt.none {G : gG} {t : Nat × Nat} {I : Nat → Int32} {J : Nat → Int64} {Q : Nat → Option Nat} {O : Nat → Value} {H : Heap} {a : Nat} (h : t.1 = 0) : gAt G t I J Q O H a :=
  ⟨fun e => by omega, fun e => by omega, fun e => by omega, fun e => by omega, fun e => by omega, fun e => absurd h e⟩
theorem gP.lt {G : gG} {T : gTy} {I : gI} {J : gJ} {Q : gR} {O : gO} {H : Heap} (h : gP G T I J Q O H) {a : Nat} (ha : (T a).1 ≠ 0) : a < H.size := (h a).2.2.2.2.2 ha
theorem gP.new {G : gG} {T : gTy} {I : gI} {J : gJ} {Q : gR} {O : gO} {H : Heap} (h : gP G T I J Q O H) : (T H.size).1 = 0 := by
  by_cases h0 : (T H.size).1 = 0
  · exact h0
  · exact absurd (h.lt h0) (Nat.lt_irrefl _)
/-- all cells but a stay -/
theorem gP.set {G : gG} {T T' : gTy} {I I' : gI} {J J' : gJ} {Q Q' : gR} {O O' : gO} {H H1 : Heap} (h : gP G T I J Q O H) (a : Nat) (hz : H.size ≤ H1.size) (oq : ∀ q : Nat, q < H.size → q ≠ a → H1[q]? = H[q]?) (hT : ∀ q, q ≠ a → T' q = T q) (hI : ∀ q, q ≠ a → I' q = I q) (hJ : ∀ q, q ≠ a → J' q = J q) (hQ : ∀ q, q ≠ a → Q' q = Q q) (hO : ∀ q, q ≠ a → O' q = O q) (ha : gAt G (T' a) (I' a) (J' a) (Q' a) (O' a) H1 a) : gP G T' I' J' Q' O' H1 := by
  intro q
  by_cases hq : q = a
  · rw [hq]; exact ha
  · rw [hT q hq, hI q hq, hJ q hq, hQ q hq, hO q hq]
    by_cases h0 : (T q).1 = 0
    · exact gAt.none h0
    · exact (h q).kept (oq q (h.lt h0) hq) hz
/-- the array classes -/
def gtys (G : gG) : List (ClassId × FieldType) := [(G.2.1, .int), (G.2.2.1, .long), (G.2.2.2.1, .object "GameTables$Mix"), (G.2.2.2.2, .array .long)]
/-- the classes of arrays of Mix and of long[] are there -/
def gOv (ty : FieldType) (U : State) : Prop := (Cond.arrayOver ty).before #[] U = true
theorem gOv.vm {ty : FieldType} {u U : State} (h : u.vm = U.vm) (hk : gOv ty u) : gOv ty U := by
  unfold gOv Cond.before Cond.holds at *
  simp only [Cond.value] at *
  rw [← h]
  exact hk
theorem gOv.warm {ty : FieldType} {s U : State} (hW : s.WarmedH U.vm) (hk : gOv ty s) : gOv ty U := by
  have h : gOv ty (s.setVm U.vm) := by
    unfold gOv
    rw [Cond.arrayOver_setVmC hW.alike ty]
    exact hk
  exact gOv.vm (u := s.setVm U.vm) rfl h
theorem gOv.use {ty : FieldType} {A : Array Value} {U : State} (h : gOv ty U) : (Cond.arrayOver ty).before A U = true := h
/-- calls among nest mates: own class, place, method -/
def gnest : List (String × Nat × MethodName) := [(RX4, 9, yX3_init), (RX3, 17, yX0_init), (RX0, 17, yX2_init), (RX3, 31, yX2_init), (RX4, 21, yX1_init), (RX3, 62, yX4_lowest), (RX3, 66, yX4_hasBit), (RX0, 78, yX4_firstOf), (RX0, 81, yX4_hasBit)]
def gK (G : gG) (U : State) : Prop := va_K G.1 vwCl (gtys G) U ∧ (∀ w ∈ gnest, va_Nw (.methodLinkNest w.1 w.2.1 w.2.2 "GameTables") U) ∧ gOv (.object "GameTables$Mix") U ∧ gOv (.array .long) U
theorem gK.same {G : gG} {u U : State} (h : u.vm = U.vm) (hk : gK G u) : gK G U := ⟨va_K.moved (by rw [h]; exact Vm.Alike.refl _) hk.1, fun w hw => va_Nw.same rfl h (hk.2.1 w hw), gOv.vm h hk.2.2.1, gOv.vm h hk.2.2.2⟩
theorem gK.warm {G : gG} {s U : State} (hW : s.WarmedH U.vm) (hk : gK G s) : gK G U := ⟨va_K.moved hW.alike hk.1, fun w hw => va_Nw.warmM hW (hk.2.1 w hw), gOv.warm hW hk.2.2.1, gOv.warm hW hk.2.2.2⟩
/-- a contract's start: these arguments, this heap -/
def gPc (G : gG) (H : Heap) (av : List Value) : Array Value → State → Prop := fun v U => v = av.toArray ∧ U.heap = H ∧ gK G U
/-- its end, where it only reads -/
def gQp (r : Option Value) : Array Value → State → Outcome → State → Prop := fun _ st oc t => oc = .returned r ∧ t.heap = st.heap
/-- its end, where it writes: what it says of answer and heap; old cells that aren't A's stay -/
def gQc (A : Nat → Prop) (post : Option Value → Heap → Prop) : Array Value → State → Outcome → State → Prop := fun _ st oc t => (∃ r, oc = .returned r ∧ post r t.heap) ∧ va_F A st t
theorem gPc.blind {G : gG} {H : Heap} {av : List Value} : FrameBlind (gPc G H av) := fun a U g mk h => ⟨h.1, h.2.1, gK.same (u := U) (U := U.calling g mk a) rfl h.2.2⟩
/-- the words of a method: its code, and the table -/
def gw (y : MethodName) (c : ByteArray) (n : Nat) (ret : Option FieldType) : List Cond := .code y c n ret :: gtb
theorem g_good {y : MethodName} {c : ByteArray} {n : Nat} {ret : Option FieldType} (h : Cond.code y c n ret ∈ gtb) : GoodIn gtb (gw y c n ret) := by
  intro w hw
  rcases List.mem_cons.mp hw with rfl | hw
  · exact ⟨h, good_of_word (List.mem_filter.mp h).2⟩
  · exact ⟨hw, good_of_word (List.mem_filter.mp hw).2⟩
section GE
variable {l : Launch} {G : gG} {H : Heap}
/-- what a method has at hand from its entry on -/
def gC (G : gG) (p : Program) (m : MethodId) (c : Code) (cc : ByteArray) (nL : Nat) (s : State) (args : Array Value) (own : String) (meth : Method) (ret : Option FieldType) (nm : String) : Prop := CallFix p m c cc nL s args gtb own ∧ gK G s ∧ meth.sig.returnType = ret ∧ meth.locks = false ∧ meth.name = nm
theorem g_met {y : MethodName} {rm : Room} {Qc : Array Value → State → Outcome → State → Prop} {mc ms : Nat} {free : Addr → Prop} {cc : ByteArray} {maxL : Nat} {ret : Option FieldType} {av : List Value} (lv : List (Nat × Value)) (hy : plainName y.cls = true) (hlv : lv_args 0 av = lv) (hsz : (lg_sl av).length ≤ maxL)
    (body : ∀ (p : Program) (e : Env) (s : State) (m : MethodId) (below : List Frame) (meth : Method) (c : Code), gC G p m c cc maxL s av.toArray y.cls meth ret y.name → s.heap = H →
      ∀ ls : Array Slot, lv_has ls maxL lv → W p l e rm s m av.toArray below meth c H [] 0 0 (MQ below Qc av.toArray s mc ms free) (F0 m 0 ls [])) : Met l y (gw y cc maxL ret) rm (gPc G H av) Qc mc ms free := by
  refine Met.ofW (cc := cc) (maxL := maxL) (ret := ret) hy rfl ?_
  intro p e s m args below meth c s₁ B hml hv
  obtain ⟨rfl, hh, hK⟩ := hv
  have hts := atoms_spec (ws := gw y cc maxL ret) B.pre
  have hown : s.vm.findClass y.cls = some m.cls := findClass_of_methodNamed B.named
  have hl := lv_entry av (n := maxL) hsz
  rw [hlv] at hl
  rw [lg_entry_eq]
  have k := body p e s m below meth c ⟨⟨B.exec, B.bytes, hml, hown, fun w h => hts w (List.mem_cons_of_mem _ h)⟩, hK, B.returns, B.notSynchronized, (name_of_methodNamed B.named B.method).1⟩ hh _ hl
  rw [hh]
  exact k
end GE
