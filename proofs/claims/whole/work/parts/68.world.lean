/-! ===== the class's memory and the reference's beside each other ===== -/
theorem gP_sub {G : gG} {T T' : gTy} {I : gI} {J : gJ} {Q : gR} {O : gO} {H : Heap} (h : gP G T I J Q O H) (hT : ∀ q, T' q = T q ∨ (T' q).1 = 0) : gP G T' I J Q O H := fun a => by
  rcases hT a with e | e
  · rw [e]; exact h a
  · exact gAt.none e
theorem gP_frame {G : gG} {T T' : gTy} {I : gI} {J : gJ} {Q : gR} {O : gO} {H H1 : Heap} (h : gP G T' I J Q O H) (hz : H.size ≤ H1.size) (hfr : ∀ q : Nat, q < H.size → ¬ gF T H q → H1[q]? = H[q]?) (hd : ∀ q, (T' q).1 ≠ 0 → (T q).1 = 0) : gP G T' I J Q O H1 := fun a => by
  by_cases e : (T' a).1 = 0
  · exact gAt.none e
  · have hl := h.lt e
    refine (h a).kept (hfr a hl ?_) hz
    rintro (q | q)
    · exact q (hd a e)
    · omega
/-- class and reference hold one state -/
def WD (G : gG) (lo g h : Nat) (st : GS) (H : Heap) : Prop := ∃ (T : gTy) (I : gI) (J : gJ) (Q : gR) (O : gO) (r d : Nat) (ck : Bool) (cr cd : CL) (Sr Sd : Nat → Prop) (T' : gTy) (I' : gI) (J' : gJ) (Q' : gR) (O' : gO), gP G T I J Q O H ∧ isGT T J Q O g r d (gsm st) (gsn st) ck cr cd Sr Sd ∧ ckOK ck cr cd (gsm st) (gsn st) (I (r + 9)) (I (d + 9)) ∧ gsI I g r d (gsm st) (gsn st) = st ∧ gP G T' I' J' Q' O' H ∧ isMo T' O' h ∧ moS I' h st ∧ (∀ q, (T q).1 ≠ 0 → (T' q).1 = 0) ∧ (∀ q, (T q).1 ≠ 0 → lo ≤ q) ∧ (∀ q, (T' q).1 ≠ 0 → lo ≤ q) ∧ gInv st
theorem WD_mk {G : gG} {T T' : gTy} {nn lo g h : Nat} {st : GS} {H1 H2 : Heap} (hgt : gtG G T nn g st H1) (hmo : moR G T' h st H2) (hz : H1.size ≤ H2.size) (hfr : ∀ q : Nat, q < H1.size → ¬ gF T' H1 q → H2[q]? = H1[q]?) (hdj : ∀ q, (T q).1 ≠ 0 ∨ nn ≤ q → q < H1.size → (T' q).1 = 0) (hlo : ∀ q, (T q).1 ≠ 0 → lo ≤ q) (hn : lo ≤ nn) (hlo' : ∀ q, (T' q).1 ≠ 0 → lo ≤ q) (hi : gInv st) : WD G lo g h st H2 := by
  obtain ⟨T2, I2, J2, Q2, O2, r, d, ck, cr, cd, Sr, Sd, hP, hE, hg, hck, e1, e2, e3, e4, e5⟩ := hgt
  obtain ⟨I3, J3, Q3, O3, hP3, hm, hs⟩ := hmo
  have hd2 : ∀ q, (T2 q).1 ≠ 0 → (T' q).1 = 0 := fun q hq => hdj q (hE q hq) (hP.lt hq)
  refine ⟨T2, I2, J2, Q2, O2, r, d, ck, cr, cd, Sr, Sd, T', I3, J3, Q3, O3, gP_frame hP hz hfr hd2, hg, by rw [e1, e2]; exact hck, ?_, hP3, hm, hs, hd2, fun q hq => (hE q hq).elim (hlo q) (fun z => Nat.le_trans hn z), hlo', hi⟩
  unfold gsI
  rw [e1, e2, e3, e4, e5]
