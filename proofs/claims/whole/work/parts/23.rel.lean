/-! ===== what each public method answers and leaves: relations that class and reference share ===== -/
/-- choices of ROW and COLUMN, pays of both (own choice first), weights of both, refusals -/
abbrev GS : Type := Nat × Nat × (Nat → Int32) × (Nat → Int32) × (Nat → Int32) × (Nat → Int32) × (Nat → Int32)
abbrev gsm (s : GS) : Nat := s.1
abbrev gsn (s : GS) : Nat := s.2.1
abbrev gsP0 (s : GS) : Nat → Int32 := s.2.2.1
abbrev gsP1 (s : GS) : Nat → Int32 := s.2.2.2.1
abbrev gsw0 (s : GS) : Nat → Int32 := s.2.2.2.2.1
abbrev gsw1 (s : GS) : Nat → Int32 := s.2.2.2.2.2.1
abbrev gsrf (s : GS) : Nat → Int32 := s.2.2.2.2.2.2
def gsRef (s : GS) (j : Nat) : GS := (gsm s, gsn s, gsP0 s, gsP1 s, gsw0 s, gsw1 s, gu (gsrf s) j (gsrf s j + 1))
def gsSetP (s : GS) (P0 P1 : Nat → Int32) : GS := (gsm s, gsn s, P0, P1, gsw0 s, gsw1 s, gsrf s)
def gsSetW (s : GS) (w0 w1 : Nat → Int32) : GS := (gsm s, gsn s, gsP0 s, gsP1 s, w0, w1, gsrf s)
section REL
variable (s : GS) (K : Int32 → GS → Prop) (L : Int64 → GS → Prop)
def rGame (a b : Int32) : Prop := ((a < nI 1 ∨ b < nI 1) ∧ K (-4) (gsRef s 4)) ∨ (¬ (a < nI 1 ∨ b < nI 1) ∧ (nI 4 < a ∨ nI 4 < b) ∧ K (-6) (gsRef s 6)) ∨ (∃ i k : Nat, (1 ≤ i ∧ i ≤ 4) ∧ (1 ≤ k ∧ k ≤ 4) ∧ a = nI i ∧ b = nI k ∧ K 1 (i, k, z16 (gsP0 s) 16, z16 (gsP1 s) 16, gsw0 s, gsw1 s, gsrf s))
def plOK (q i k : Int32) : Bool := isW q && (inR i (gsm s) && inR k (gsn s))
def rPay (q i k v : Int32) : Prop := (plOK s q i k = false ∧ K (1000000000 - (-1)) (gsRef s 1)) ∨ (plOK s q i k = true ∧ v < -20 ∧ K (1000000000 - (-4)) (gsRef s 4)) ∨ (plOK s q i k = true ∧ ¬ v < -20 ∧ nI 20 < v ∧ K (1000000000 - (-6)) (gsRef s 6)) ∨
  (∃ a b : Nat, a < gsm s ∧ b < gsn s ∧ i = nI a ∧ k = nI b ∧ ¬ v < -20 ∧ ¬ nI 20 < v ∧ ((q = nI 0 ∧ K (gsP0 s (a * 4 + b)) (gsSetP s (gu (gsP0 s) (a * 4 + b) v) (gsP1 s))) ∨ (q = nI 1 ∧ K (gsP1 s (b * 4 + a)) (gsSetP s (gsP0 s) (gu (gsP1 s) (b * 4 + a) v)))))
def rPaid (q i k : Int32) : Prop := (plOK s q i k = false ∧ K (1000000000 - (-1)) (gsRef s 1)) ∨ (∃ a b : Nat, a < gsm s ∧ b < gsn s ∧ i = nI a ∧ k = nI b ∧ ((q = nI 0 ∧ K (gsP0 s (a * 4 + b)) s) ∨ (q = nI 1 ∧ K (gsP1 s (b * 4 + a)) s)))
def wtOK (q k : Int32) : Bool := isW q && inR k 4
def rWeight (q k v : Int32) : Prop := (wtOK q k = false ∧ K (-1) (gsRef s 1)) ∨ (wtOK q k = true ∧ v < 0 ∧ K (-4) (gsRef s 4)) ∨ (wtOK q k = true ∧ ¬ v < 0 ∧ nI 99 < v ∧ K (-6) (gsRef s 6)) ∨
  (∃ b : Nat, b < 4 ∧ k = nI b ∧ ¬ v < 0 ∧ ¬ nI 99 < v ∧ ((q = nI 0 ∧ K (gsw0 s b) (gsSetW s (gu (gsw0 s) b v) (gsw1 s))) ∨ (q = nI 1 ∧ K (gsw1 s b) (gsSetW s (gsw0 s) (gu (gsw1 s) b v)))))
/-- by WHO: refused alike, else one of two answers -/
def rWho (q : Int32) (bad : Int32) (x0 x1 : Int32) : Prop := (isW q = false ∧ K bad (gsRef s 1)) ∨ (q = nI 0 ∧ K x0 s) ∨ (q = nI 1 ∧ K x1 s)
def rWorse (q k : Int32) : Prop := ((isW q = false ∨ (q = nI 0 ∧ inR k (gsm s) = false) ∨ (q = nI 1 ∧ inR k (gsn s) = false)) ∧ K (-1) (gsRef s 1)) ∨
  (∃ b : Nat, k = nI b ∧ ((q = nI 0 ∧ b < gsm s ∧ K (oI (fBet (gsP0 s) b (2 ^ gsm s - 1) (2 ^ gsn s - 1))) s) ∨ (q = nI 1 ∧ b < gsn s ∧ K (oI (fBet (gsP1 s) b (2 ^ gsn s - 1) (2 ^ gsm s - 1))) s)))
def gsDr : Nat × Nat × Nat := dropF (gsP0 s) (gsP1 s) 8 (2 ^ gsm s - 1) (2 ^ gsn s - 1) 0
def rLeft (q : Int32) : Prop := rWho s K q (-1) (nI (gsDr s).1) (nI (gsDr s).2.1)
def rTimes : Prop := K (nI (gsDr s).2.2) s
def rSure (q : Int32) : Prop := rWho s K q (1000000000 - (-1)) (sureP (gsP0 s) (gsm s) (gsn s)) (sureP (gsP1 s) (gsn s) (gsm s))
def rHold (q : Int32) : Prop := rWho s K q (1000000000 - (-1)) (holdP (gsP0 s) (gsm s) (gsn s)) (holdP (gsP1 s) (gsn s) (gsm s))
def rTurn : Prop := K 1 (gsn s, gsm s, gsP1 s, gsP0 s, gsw1 s, gsw0 s, gsrf s)
/-- pays raised in one of the other's choices -/
def rRaise1 (P : Nat → Int32) (ch b : Nat) (v : Int32) (s' : GS) : Prop := ((leastA P ch b).toInt64 + v.toInt64 < -20 ∧ K (-4) (gsRef s 4)) ∨ (¬ (leastA P ch b).toInt64 + v.toInt64 < -20 ∧ 20 < (mostA P ch b).toInt64 + v.toInt64 ∧ K (-6) (gsRef s 6)) ∨ (¬ (leastA P ch b).toInt64 + v.toInt64 < -20 ∧ ¬ 20 < (mostA P ch b).toInt64 + v.toInt64 ∧ K 1 s')
def rRaise (q k v : Int32) : Prop := ((isW q = false ∨ (q = nI 0 ∧ inR k (gsn s) = false) ∨ (q = nI 1 ∧ inR k (gsm s) = false)) ∧ K (-1) (gsRef s 1)) ∨
  (∃ b : Nat, k = nI b ∧ ((q = nI 0 ∧ b < gsn s ∧ rRaise1 s K (gsP0 s) (gsm s) b v (gsSetP s (addA (gsP0 s) (gsm s) b v) (gsP1 s))) ∨ (q = nI 1 ∧ b < gsm s ∧ rRaise1 s K (gsP1 s) (gsn s) b v (gsSetP s (gsP0 s) (addA (gsP1 s) (gsn s) b v)))))
def rScale1 (P : Nat → Int32) (v : Int32) (s' : GS) : Prop := (20 < (farL P 16).toInt64 * v.toInt64 ∧ K (-6) (gsRef s 6)) ∨ (¬ 20 < (farL P 16).toInt64 * v.toInt64 ∧ K 1 s')
def rScale (q v : Int32) : Prop := (isW q = false ∧ K (-1) (gsRef s 1)) ∨ (isW q = true ∧ ¬ nI 1 ≤ v ∧ K (-4) (gsRef s 4)) ∨ (nI 1 ≤ v ∧ ((q = nI 0 ∧ rScale1 s K (gsP0 s) v (gsSetP s (mulA (gsP0 s) 16 v) (gsP1 s))) ∨ (q = nI 1 ∧ rScale1 s K (gsP1 s) v (gsSetP s (gsP0 s) (mulA (gsP1 s) 16 v)))))
end REL
