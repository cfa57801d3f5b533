/-! ===== candidates for corners, and the list of corners, as mathematics ===== -/
theorem tsum_congr {X Y : Nat → Int64} : ∀ n, (∀ j, j < n → X j = Y j) → tsum X n = tsum Y n
  | 0, _ => rfl
  | n + 1, h => by
    unfold tsum
    rw [tsum_congr n (fun j hj => h j (by omega)), h n (by omega)]
theorem msk_congr {p q : Nat → Bool} : ∀ n, (∀ j, j < n → p j = q j) → msk p n = msk q n
  | 0, _ => rfl
  | n + 1, h => by
    unfold msk
    rw [msk_congr n (fun j hj => h j (by omega)), h n (by omega)]
theorem usedB_congr {X Y : Nat → Int64} (n : Nat) (h : ∀ j, j < n → X j = Y j) : usedB X n = usedB Y n := msk_congr n (fun j hj => by rw [h j hj])
theorem wsum_congr {P : Nat → Int32} {X Y : Nat → Int64} (o : Nat) : ∀ n, (∀ j, j < n → X j = Y j) → wsum P X o n = wsum P Y o n
  | 0, _ => rfl
  | n + 1, h => by
    unfold wsum
    rw [wsum_congr o n (fun j hj => h j (by omega)), h n (by omega)]
theorem ansB_congr {P : Nat → Int32} {X Y : Nat → Int64} {ch : Nat} (h : ∀ j, j < 4 → X j = Y j) : ansB P X ch = ansB P Y ch := by
  unfold ansB
  rw [show (fun o => wsum P X o 4) = (fun o => wsum P Y o 4) from funext fun o => wsum_congr o 4 h]
theorem fst4_congr {p q : Nat → Bool} (h : ∀ j, j < 4 → p j = q j) : fst4 p = fst4 q := by
  simp [fst4, List.range, List.range.loop, List.find?, h 0, h 1, h 2, h 3]
theorem ordM_congr {X X' Y Y' : Nat → Int64} {t u : Int64} (h : ∀ j, j < 4 → X j = X' j) (h2 : ∀ j, j < 4 → Y j = Y' j) : ordM X t Y u = ordM X' t Y' u := by
  unfold ordM
  rw [fst4_congr (q := fun k => !decide (X' k * u = Y' k * t)) (fun j hj => by rw [h j hj, h2 j hj])]
  cases e : fst4 (fun k => !decide (X' k * u = Y' k * t)) with
  | none => rfl
  | some k =>
    have := (fst4_lt e).1
    simp only [h k this, h2 k this]
theorem sgnF_congr {X Y : Nat → Int64} (u : Nat) (h : ∀ j, j < 4 → X j = Y j) : sgnF X u = sgnF Y u := by
  unfold sgnF
  cases e : fst4 u.testBit with
  | none => rfl
  | some k => simp only [h k (fst4_lt e).1]
theorem posOK_congr {X Y : Nat → Int64} (u : Nat) (h : ∀ j, j < 4 → X j = Y j) : posOK X u = posOK Y u := by
  have e := sgnF_congr u h
  rw [Bool.eq_iff_iff, posOK_iff, posOK_iff]
  constructor
  · intro q k hk hb
    rw [← e, ← h k hk]
    exact q k hk hb
  · intro q k hk hb
    rw [e, h k hk]
    exact q k hk hb
theorem detS_congr2 {M M' : Nat → Nat → Int64} {lines place : Nat} (hl : lines < 4) (hp : place < lines + 1) (h : ∀ ln, ln < lines → ∀ pl, pl < lines + 1 → M ln pl = M' ln pl) : detS M place lines = detS M' place lines := by
  have hA : detA place ≤ 1 ∧ (0 < place → detA place = 0) := by unfold detA; split <;> omega
  have hB : detB place ≤ 2 ∧ (1 < place → detB place = 1) := by unfold detB; split <;> omega
  have hC : detC place ≤ 3 ∧ (2 < place → detC place = 2) := by unfold detC; split <;> omega
  rcases (show lines = 0 ∨ lines = 1 ∨ lines = 2 ∨ lines = 3 by omega) with rfl | rfl | rfl | rfl
  · rfl
  · simp only [detS]
    exact h 0 (by omega) _ (by omega)
  · simp only [detS, det2]
    rw [h 0 (by omega) _ (by omega), h 1 (by omega) _ (by omega), h 0 (by omega) _ (by omega), h 1 (by omega) _ (by omega)]
  · simp only [detS, det2]
    rw [h 0 (by omega) (detA place) (by omega), h 0 (by omega) (detB place) (by omega), h 0 (by omega) (detC place) (by omega), h 1 (by omega) (detA place) (by omega), h 1 (by omega) (detB place) (by omega), h 1 (by omega) (detC place) (by omega), h 2 (by omega) (detA place) (by omega), h 2 (by omega) (detB place) (by omega), h 2 (by omega) (detC place) (by omega)]
/-- the parts that pin a mix down by its used choices u and the tied answers t -/
def candX (P : Nat → Int32) (u t : Nat) : Nat → Int64 := partF (gapM P u t) u
def candY (P : Nat → Int32) (u t : Nat) : Nat → Int64 := fun j => candX P u t j * sgnF (candX P u t) u
def cand (P : Nat → Int32) (ch u t : Nat) : Option MixV := if posOK (candX P u t) u = true ∧ t &&& (15 ^^^ ansB P (candY P u t) ch) = 0 then some (candY P u t, tsum (candY P u t) 4, usedB (candY P u t) 4, ansB P (candY P u t) ch) else none
abbrev CL : Type := Nat × (Nat → MixV)
def ordV (v w : MixV) : Int32 := ordM v.1 v.2.1 w.1 w.2.1
def insP (v : MixV) (c : CL) : Nat := (fstN (fun j => decide (ordV v (c.2 j) < 0)) c.1).getD c.1
def insC (v : MixV) (c : CL) : CL := if (fstN (fun j => decide (ordV v (c.2 j) = 0)) c.1).isSome then c else (c.1 + 1, fun j => if j < insP v c then c.2 j else if j = insP v c then v else c.2 (j - 1))
def stepC (P : Nat → Int32) (ch : Nat) (c : CL) (u t : Nat) : CL := match cand P ch u t with
  | none => c
  | some v => insC v c
theorem insP_eq {v : MixV} {c : CL} {pl : Nat} (h0 : pl ≤ c.1) (h1 : ∀ j, j < pl → ¬ ordV v (c.2 j) < 0) (h2 : pl < c.1 → ordV v (c.2 pl) < 0) : insP v c = pl := by
  unfold insP
  by_cases h : pl < c.1
  · rw [fstN_some (i := pl) h (by simpa using h2 h) (fun k hk => by simpa using h1 k hk)]
    rfl
  · rw [fstN_none (fun k hk => by simpa using h1 k (by omega))]
    show c.1 = pl
    omega
theorem insC_dup {v : MixV} {c : CL} {j : Nat} (hj : j < c.1) (h : ordV v (c.2 j) = 0) : insC v c = c := by
  unfold insC
  rw [if_pos]
  cases e : fstN (fun j => decide (ordV v (c.2 j) = 0)) c.1 with
  | some _ => rfl
  | none =>
    have := List.find?_eq_none.mp e j (List.mem_range.mpr hj)
    simp [h] at this
theorem insC_new {v : MixV} {c : CL} (h : ∀ j, j < c.1 → ¬ ordV v (c.2 j) = 0) : insC v c = (c.1 + 1, fun j => if j < insP v c then c.2 j else if j = insP v c then v else c.2 (j - 1)) := by
  unfold insC
  rw [fstN_none (fun k hk => by simpa using h k hk)]
  simp
/-- a mix of the memory -/
def mixIs (J : gJ) (O : gO) (a : Nat) (v : MixV) : Prop := (∀ j, j < 4 → J (a + 1) j = v.1 j) ∧ mxV O a v.2.1 v.2.2.1 v.2.2.2
/-- a Corners object at k with its list, all its cells among S -/
def coS (T : gTy) (J : gJ) (Q : gR) (O : gO) (k : Nat) (c : CL) (S : Nat → Prop) : Prop := ∃ (fill sp : Nat) (ad : Nat → Nat), coR T Q O k c.1 fill sp ad ∧ (∀ j, j < c.1 → mixIs J O (ad j) (c.2 j)) ∧ (∀ q, S q → (T q).1 ≠ 0) ∧ (S k ∧ S (k + 1) ∧ S (k + 5) ∧ S (k + 6) ∧ S (k + 7)) ∧ (S sp ∧ S (sp + 1)) ∧ ∀ j, j < fill → S (ad j) ∧ S (ad j + 1)
def sGrow (S : Nat → Prop) (T2 : gTy) (n : Nat) : Nat → Prop := fun q => S q ∨ (n ≤ q ∧ (T2 q).1 ≠ 0)
def searchPost (G : gG) (T : gTy) (I : gI) (J : gJ) (Q : gR) (O : gO) (n k : Nat) (c : CL) (S : Nat → Prop) (H1 : Heap) : Prop := ∃ (T2 : gTy) (J2 : gJ) (Q2 : gR) (O2 : gO), gP G T2 I J2 Q2 O2 H1 ∧ tExt T T2 n ∧ (∀ q, (T q).1 ≠ 0 → ¬ S q → J2 q = J q ∧ Q2 q = Q q ∧ O2 q = O q) ∧ coG T2 Q2 O2 k ∧ coS T2 J2 Q2 O2 k c (sGrow S T2 n)
theorem coG_au {T : gTy} {Q : gR} {O O' : gO} {k a f : Nat} {v : Value} (h : coG T Q O k) (hO : O' = au O a f v) (hne : k ≠ a) : coG T Q O' k := coG_ext h (fun _ _ => rfl) (by rw [hO, au_ne _ _ _ hne]) (by rw [hO, au_ne _ _ _ hne]) rfl
theorem coR_au {T : gTy} {Q : gR} {O O' : gO} {k cnt fill sp f : Nat} {ad : Nat → Nat} {v : Value} (h : coR T Q O k cnt fill sp ad) (hO : O' = au O sp f v) (hf : f ≠ 0) (hne : k ≠ sp) : coR T Q O' k cnt fill sp ad := by
  obtain ⟨g0, g2, gc, gf, gQ, gm, ga, gi⟩ := h
  exact ⟨by rw [hO, au_ne _ _ _ hne]; exact g0, by rw [hO, au_ne _ _ _ hne]; exact g2, gc, gf, gQ, isMx_au gm hO (Or.inr hf), fun j hj => ⟨isMx_au (ga j hj).1 hO (Or.inl (ga j hj).2), (ga j hj).2⟩, gi⟩
/-- memory changed on the gaps and on the spare mix alone -/
theorem scr_post {G : gG} {T : gTy} {I : gI} {J J2 : gJ} {Q : gR} {O O2 : gO} {H1 : Heap} {n k fill sp : Nat} {ad : Nat → Nat} {c : CL} {S : Nat → Prop} (hco2 : coG T Q O2 k) (hcr : coR T Q O k c.1 fill sp ad) (hcr2 : coR T Q O2 k c.1 fill sp ad) (hV : ∀ j, j < c.1 → mixIs J O (ad j) (c.2 j)) (hSa : ∀ q, S q → (T q).1 ≠ 0) (hS1 : S k ∧ S (k + 1) ∧ S (k + 5) ∧ S (k + 6) ∧ S (k + 7)) (hS2 : S sp ∧ S (sp + 1)) (hS3 : ∀ j, j < fill → S (ad j) ∧ S (ad j + 1))
    (hJ : ∀ q, q ≠ k + 5 → q ≠ k + 6 → q ≠ k + 7 → q ≠ sp + 1 → J2 q = J q) (hO : ∀ q, q ≠ sp → O2 q = O q) (hP : gP G T I J2 Q O2 H1) : searchPost G T I J Q O n k c S H1 := by
  refine ⟨T, J2, Q, O2, hP, ⟨fun _ _ => rfl, fun _ h => Or.inl h⟩, fun q hq hs => ⟨hJ q (fun e => hs (e ▸ hS1.2.2.1)) (fun e => hs (e ▸ hS1.2.2.2.1)) (fun e => hs (e ▸ hS1.2.2.2.2)) (fun e => hs (e ▸ hS2.2)), rfl, hO q (fun e => hs (e ▸ hS2.1))⟩, hco2, fill, sp, ad, hcr2, fun j hj => ?_, fun q hq => hq.elim (hSa q) (fun h => h.2), ⟨Or.inl hS1.1, Or.inl hS1.2.1, Or.inl hS1.2.2.1, Or.inl hS1.2.2.2.1, Or.inl hS1.2.2.2.2⟩, ⟨Or.inl hS2.1, Or.inl hS2.2⟩, fun j hj => ⟨Or.inl (hS3 j hj).1, Or.inl (hS3 j hj).2⟩⟩
  have hjf : j < fill := Nat.lt_of_lt_of_le hj hcr.2.2.1
  have hm := (hcr.2.2.2.2.2.2.1 j hjf).1
  have hns := (hcr.2.2.2.2.2.2.1 j hjf).2
  refine ⟨fun i hi => ?_, ?_⟩
  · rw [hJ (ad j + 1) (fun e => sp_ne hco2 (hcr2.2.2.2.2.2.2.1 j hjf).1 (q := 0) (by omega) e.symm) (fun e => sp_ne hco2 (hcr2.2.2.2.2.2.2.1 j hjf).1 (q := 1) (by omega) e.symm) (fun e => sp_ne hco2 (hcr2.2.2.2.2.2.2.1 j hjf).1 (q := 2) (by omega) e.symm) (by omega)]
    exact (hV j hj).1 i hi
  · have := (hV j hj).2
    unfold mxV at *
    rw [hO _ hns]
    exact this
/-- the spare mix kept at its place -/
theorem keep_post {G : gG} {T : gTy} {I : gI} {J J2 : gJ} {Q : gR} {O O2 : gO} {H1 : Heap} {n k fill sp : Nat} {ad : Nat → Nat} {c : CL} {S : Nat → Prop} {v : MixV} (hco2 : coG T Q O2 k) (hcr : coR T Q O k c.1 fill sp ad) (hcr2 : coR T Q O2 k c.1 fill sp ad) (hV : ∀ j, j < c.1 → mixIs J O (ad j) (c.2 j)) (hSa : ∀ q, S q → (T q).1 ≠ 0) (hS1 : S k ∧ S (k + 1) ∧ S (k + 5) ∧ S (k + 6) ∧ S (k + 7)) (hS2 : S sp ∧ S (sp + 1)) (hS3 : ∀ j, j < fill → S (ad j) ∧ S (ad j + 1))
    (hJ : ∀ q, q ≠ k + 5 → q ≠ k + 6 → q ≠ k + 7 → q ≠ sp + 1 → J2 q = J q) (hO : ∀ q, q ≠ sp → O2 q = O q) (hv : mixIs J2 O2 sp v) {or : Nat → Int32} (hor : ∀ j, j < c.1 → or j = ordV v (c.2 j)) (hK : keepPost G T I J2 Q O2 n k c.1 fill sp ad or H1) : searchPost G T I J Q O n k (insC v c) S H1 := by
  rcases hK with ⟨j, hj, h0, hP⟩ | ⟨hne, pl, hpl, hp1, hp2, T2, J3, Q2, O3, fill2, sp2, ad2, hP, hE, hJ3, hQ3, hO3, hco3, hcr3, had, hown⟩
  · rw [insC_dup hj (by rw [← hor j hj]; exact h0)]
    exact scr_post hco2 hcr hcr2 hV hSa hS1 hS2 hS3 hJ hO hP
  · rw [insC_new (fun j hj => by rw [← hor j hj]; exact hne j hj), insP_eq (pl := pl) hpl (fun j hj => by rw [← hor j (by omega)]; exact hp1 j hj) (fun h => by rw [← hor pl h]; exact hp2 h)]
    have tm : ∀ a, isMx T O2 a → (T a).1 ≠ 0 ∧ (T (a + 1)).1 ≠ 0 := fun a h => ⟨by rw [h.1]; simp, by rw [h.2.2]; simp⟩
    have nk : ∀ a, isMx T O2 a → a ≠ k := fun a h => ne_of_T h.1 hco2.1 (by decide)
    have mk : ∀ a w, isMx T O2 a → mixIs J2 O2 a w → mixIs J3 O3 a w := fun a w h hw => by
      refine ⟨fun i hi => ?_, ?_⟩
      · rw [hJ3 _ (tm a h).2]; exact hw.1 i hi
      · have := hw.2
        unfold mxV at *
        rw [hO3 a (tm a h).1 (nk a h)]
        exact this
    have old : ∀ j, j < c.1 → mixIs J2 O2 (ad j) (c.2 j) := fun j hj => by
      have hjf : j < fill := Nat.lt_of_lt_of_le hj hcr.2.2.1
      have hm2 := (hcr2.2.2.2.2.2.2.1 j hjf).1
      have hns := (hcr.2.2.2.2.2.2.1 j hjf).2
      refine ⟨fun i hi => ?_, ?_⟩
      · rw [hJ (ad j + 1) (fun e => sp_ne hco2 hm2 (q := 0) (by omega) e.symm) (fun e => sp_ne hco2 hm2 (q := 1) (by omega) e.symm) (fun e => sp_ne hco2 hm2 (q := 2) (by omega) e.symm) (by omega)]
        exact (hV j hj).1 i hi
      · have := (hV j hj).2
        unfold mxV at *
        rw [hO _ hns]
        exact this
    have hcf := hcr.2.2.1
    refine ⟨T2, J3, Q2, O3, hP, hE, fun q hq hs => ⟨?_, ?_, ?_⟩, hco3, fill2, sp2, ad2, hcr3, fun j hj => ?_, fun q hq => hq.elim (fun h => by rw [hE.1 q (hSa q h)]; exact hSa q h) (fun h => h.2), ⟨Or.inl hS1.1, Or.inl hS1.2.1, Or.inl hS1.2.2.1, Or.inl hS1.2.2.2.1, Or.inl hS1.2.2.2.2⟩, ?_, fun j hj => ?_⟩
    · rw [hJ3 q hq]
      exact hJ q (fun e => hs (e ▸ hS1.2.2.1)) (fun e => hs (e ▸ hS1.2.2.2.1)) (fun e => hs (e ▸ hS1.2.2.2.2)) (fun e => hs (e ▸ hS2.2))
    · exact hQ3 q (fun e => hs (e ▸ hS1.2.1))
    · rw [hO3 q hq (fun e => hs (e ▸ hS1.1))]
      exact hO q (fun e => hs (e ▸ hS2.1))
    · have hj' : j < c.1 + 1 := hj
      rw [had j (by omega)]
      unfold insA
      show mixIs J3 O3 _ (if j < pl then c.2 j else if j = pl then v else c.2 (j - 1))
      by_cases h1 : j < pl
      · rw [if_pos h1, if_pos h1]
        exact mk _ _ (hcr2.2.2.2.2.2.2.1 j (by omega)).1 (old j (by omega))
      · rw [if_neg h1, if_neg h1]
        by_cases h2 : j = pl
        · rw [if_pos h2, if_pos h2]
          exact mk _ _ hcr2.2.2.2.2.2.1 hv
        · rw [if_neg h2, if_neg h2]
          exact mk _ _ (hcr2.2.2.2.2.2.2.1 (j - 1) (by omega)).1 (old (j - 1) (by omega))
    all_goals
      have inS : ∀ a, isMx T2 O3 a → (a = sp ∨ (∃ j, j < fill ∧ a = ad j) ∨ (T a).1 = 0) → sGrow S T2 n a ∧ sGrow S T2 n (a + 1) := fun a h hs => by
        rcases hs with rfl | ⟨j, hj, rfl⟩ | e
        · exact ⟨Or.inl hS2.1, Or.inl hS2.2⟩
        · exact ⟨Or.inl (hS3 j hj).1, Or.inl (hS3 j hj).2⟩
        · have h1 := (hE.2 a (by rw [h.1]; simp)).resolve_left (fun z => z e)
          exact ⟨Or.inr ⟨h1, by rw [h.1]; simp⟩, Or.inr ⟨by omega, by rw [h.2.2]; simp⟩⟩
    · exact inS sp2 hcr3.2.2.2.2.2.1 (hown sp2 (Or.inl rfl))
    · exact inS (ad2 j) (hcr3.2.2.2.2.2.2.1 j hj).1 (hown _ (Or.inr ⟨j, hj, rfl⟩))
