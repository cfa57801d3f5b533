/-! ===== corners and balances as mathematics ===== -/
def vOK (v : MixV) : Prop := v.2.2.1 < 16 ∧ v.2.2.2 < 16
def cOK (c : CL) : Prop := ∀ j, j < c.1 → vOK (c.2 j)
theorem insC_ok {v : MixV} {c : CL} (hv : vOK v) (hc : cOK c) : cOK (insC v c) := by
  unfold insC
  split
  · exact hc
  · intro j hj
    show vOK (if j < insP v c then c.2 j else if j = insP v c then v else c.2 (j - 1))
    have hj' : j < c.1 + 1 := hj
    have hp : insP v c ≤ c.1 := by
      unfold insP
      cases e : fstN (fun j => decide (ordV v (c.2 j) < 0)) c.1 with
      | none => exact Nat.le_refl _
      | some k => exact Nat.le_of_lt (fstN_lt e).1
    split
    · exact hc j (by omega)
    · split
      · exact hv
      · exact hc (j - 1) (by omega)
theorem stepC_ok {P : Nat → Int32} {ch u t : Nat} {c : CL} (hch : ch ≤ 4) (hc : cOK c) : cOK (stepC P ch c u t) := by
  unfold stepC
  split
  · exact hc
  · rename_i v hv
    unfold cand at hv
    split at hv
    · cases hv
      exact insC_ok ⟨msk_lt16 _ (Nat.le_refl 4), ansB_lt hch⟩ hc
    · cases hv
theorem sT_ok {P : Nat → Int32} {ch u : Nat} {c : CL} (hch : ch ≤ 4) (hc : cOK c) : ∀ i, cOK (sT P ch u i c)
  | 0 => hc
  | i + 1 => by
    unfold sT
    split
    · exact stepC_ok hch (sT_ok hch hc i)
    · exact sT_ok hch hc i
theorem sU_ok {P : Nat → Int32} {ch m : Nat} (hch : ch ≤ 4) : ∀ i, cOK (sU P ch m i)
  | 0 => fun j hj => absurd hj (Nat.not_lt_zero j)
  | i + 1 => sT_ok hch (sU_ok hch i) m
theorem n69b {m i : Nat} (hm : m < 16) (hi : i < 16) : nU m i ≤ 69 := by
  have q : ∀ m, m < 16 → ∀ i, i < 16 → nU m i ≤ 69 := by decide +kernel
  exact q m hm i hi
theorem sU_le69 {P : Nat → Int32} {ch m i : Nat} (hm : m < 16) (hi : i < 16) : (sU P ch m i).1 ≤ 69 := Nat.le_trans (sU_le P ch m i) (n69b hm hi)
def fitV (v w : MixV) : Bool := fitB v.2.2.1 v.2.2.2 w.2.2.1 w.2.2.2
/-- how many below k have p -/
def cntL (p : Nat → Bool) : Nat → Nat
  | 0 => 0
  | k + 1 => cntL p k + (if p k then 1 else 0)
theorem cntL_le (p : Nat → Bool) : ∀ k, cntL p k ≤ k
  | 0 => Nat.le_refl 0
  | k + 1 => by
    have := cntL_le p k
    unfold cntL
    split <;> omega
theorem cntL_mono (p : Nat → Bool) {a b : Nat} (h : a ≤ b) : cntL p a ≤ cntL p b := by
  induction b with
  | zero => rw [Nat.le_zero.mp h]; exact Nat.le_refl _
  | succ b ih =>
    by_cases e : a = b + 1
    · rw [e]; exact Nat.le_refl _
    · have := ih (by omega)
      show cntL p a ≤ cntL p b + _
      omega
theorem cntL_lt (p : Nat → Bool) {a b : Nat} (h : a < b) (hp : p a = true) : cntL p a < cntL p b := by
  have := cntL_mono p (show a + 1 ≤ b from h)
  have e : cntL p (a + 1) = cntL p a + 1 := by simp [cntL, hp]
  omega
def fitP (cr cd : CL) (j : Nat) : Nat → Bool := fun l => fitV (cr.2 j) (cd.2 l)
def bR (cr cd : CL) : Nat → Nat
  | 0 => 0
  | k + 1 => bR cr cd k + cntL (fitP cr cd k) cd.1
theorem bR_le (cr cd : CL) : ∀ k, bR cr cd k ≤ k * cd.1
  | 0 => Nat.zero_le _
  | k + 1 => by
    have h1 := bR_le cr cd k
    have h2 := cntL_le (fitP cr cd k) cd.1
    unfold bR
    rw [Nat.succ_mul]
    omega
theorem bR_mono (cr cd : CL) {a b : Nat} (h : a ≤ b) : bR cr cd a ≤ bR cr cd b := by
  induction b with
  | zero => rw [Nat.le_zero.mp h]; exact Nat.le_refl _
  | succ b ih =>
    by_cases e : a = b + 1
    · rw [e]; exact Nat.le_refl _
    · have := ih (by omega)
      show bR cr cd a ≤ bR cr cd b + _
      omega
/-- the number of a balance: how many stand ahead -/
def bpos (cr cd : CL) (j l : Nat) : Nat := bR cr cd j + cntL (fitP cr cd j) l
theorem bpos_lt {cr cd : CL} {j l j2 l2 : Nat} (hl : l < cd.1) (hf : fitP cr cd j l = true) (h : j < j2 ∨ (j = j2 ∧ l < l2)) : bpos cr cd j l < bpos cr cd j2 l2 := by
  unfold bpos
  rcases h with h | ⟨rfl, h⟩
  · have h1 := bR_mono cr cd (show j + 1 ≤ j2 from h)
    have h2 := cntL_lt (fitP cr cd j) hl hf
    have e : bR cr cd (j + 1) = bR cr cd j + cntL (fitP cr cd j) cd.1 := rfl
    omega
  · have := cntL_lt (fitP cr cd j) h hf
    omega
/-- balances ahead of the one that corners a and e would be -/
def bB (cr cd : CL) (a e : Nat) : Nat → Nat
  | 0 => 0
  | k + 1 => bB cr cd a e k + cntL (fitP cr cd k) (min cd.1 (if k < a then 69 else e))
def kindV (mr md : Nat) (v w : MixV) : Nat := if popc v.2.2.1 = 1 ∧ popc w.2.2.1 = 1 then (if v.2.2.1 = w.2.2.2 ∧ w.2.2.1 = v.2.2.2 then 4 else 3) else if popc v.2.2.1 = mr ∧ popc w.2.2.1 = md then 2 else if popc v.2.2.1 = popc w.2.2.1 then 1 else 0
/-- the b-th balance, as a place -/
def pairP (cr cd : CL) (bb : Nat) : Option Nat := fstN (fun z => decide (z % 69 < cd.1) && (fitP cr cd (z / 69) (z % 69) && decide (bpos cr cd (z / 69) (z % 69) = bb))) (cr.1 * 69)
theorem pairP_some {cr cd : CL} {bb j l : Nat} (hj : j < cr.1) (hl : l < cd.1) (h69 : cd.1 ≤ 69) (hf : fitP cr cd j l = true) (hb : bpos cr cd j l = bb) : pairP cr cd bb = some (j * 69 + l) := by
  unfold pairP
  have e1 : (j * 69 + l) / 69 = j := by omega
  have e2 : (j * 69 + l) % 69 = l := by omega
  refine fstN_some ?_ ?_ ?_
  · have : j * 69 + 69 ≤ cr.1 * 69 := by omega
    omega
  · rw [e1, e2]
    simp [hl, hf, hb]
  · intro z hz
    rw [Bool.eq_false_iff]
    intro h
    simp only [Bool.and_eq_true, decide_eq_true_eq] at h
    have := bpos_lt (j2 := j) (l2 := l) h.1 h.2.1 (by omega)
    omega
theorem pairP_none {cr cd : CL} {bb : Nat} (h : bR cr cd cr.1 ≤ bb) : pairP cr cd bb = none := by
  unfold pairP
  refine fstN_none (fun z hz => ?_)
  rw [Bool.eq_false_iff]
  intro q
  simp only [Bool.and_eq_true, decide_eq_true_eq] at q
  have h1 := bpos_lt (j2 := cr.1) (l2 := 0) q.1 q.2.1 (Or.inl (by omega))
  have e : bpos cr cd cr.1 0 = bR cr cd cr.1 := rfl
  omega
/-- both lists of corners in the memory -/
def gtC (T : gTy) (J : gJ) (Q : gR) (O : gO) (r d fr sr fd sd : Nat) (ar ad : Nat → Nat) (cr cd : CL) : Prop := coR T Q O (r + 1) cr.1 fr sr ar ∧ coR T Q O (d + 1) cd.1 fd sd ad ∧ (∀ j, j < cr.1 → mixIs J O (ar j) (cr.2 j)) ∧ (∀ j, j < cd.1 → mixIs J O (ad j) (cd.2 j)) ∧ cOK cr ∧ cOK cd ∧ cr.1 ≤ 69 ∧ cd.1 ≤ 69
