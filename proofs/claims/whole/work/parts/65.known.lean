/-! ===== what the tables' words say of classes and array classes ===== -/
theorem ov_arr {A : Array Value} {s : State} {t : FieldType} (h : (Cond.arrayOver (.array t)).before A s = true) : ∃ cA k comp, s.vm.findClass ("[" ++ (FieldType.array t).toString) = some cA ∧ s.vm.classes[cA]? = some k ∧ k.kind = .array comp (.array t) := by
  unfold Cond.before at h
  simp only [Cond.holds, Cond.value, beq_iff_eq] at h
  cases hc : s.vm.findClass (FieldType.array t).toString with
  | none => simp [hc] at h
  | some comp =>
    simp only [hc, Option.bind_some, Option.bind_eq_some_iff, Option.map_eq_some_iff] at h
    obtain ⟨cA, hi, k, hk, hb⟩ := h
    cases hkind : k.kind with
    | array component ty =>
      rw [hkind] at hb
      simp at hb
      exact ⟨cA, k, component, hb.2, hk, by rw [hkind, hb.1]⟩
    | _ => rw [hkind] at hb; simp at hb
theorem gK_ex {s : State} {b : Nat} (hts : ∀ w ∈ lw_tbl, w.before #[Value.ref b] s = true) : ∃ G : gG, gK G s := by
  have htt : ∀ w ∈ tables_1, w.before #[Value.ref b] s = true := fun w hw => hts w (List.mem_append_right _ hw)
  have htg : ∀ w ∈ gtb, w.before #[Value.ref b] s = true := fun w hw => hts w (List.mem_filter.mp hw).1
  obtain ⟨c0, i0, k0⟩ := u_known (C := RX0) (T := TX0) (N := 4) (n := 4) htg inX0 (htg _ q1_24)
  obtain ⟨c1, i1, k1⟩ := u_known (C := RX1) (T := TX1) (N := 3) (n := 3) htg inX1 (htg _ q1_97)
  obtain ⟨c2, i2, k2⟩ := u_known (C := RX2) (T := TX2) (N := 4) (n := 4) htg inX2 (htg _ q1_31)
  obtain ⟨c3, i3, k3⟩ := u_known (C := RX3) (T := TX3) (N := 5) (n := 5) htg inX3 (htg _ q1_18)
  obtain ⟨c4, i4, k4⟩ := u_known (C := RX4) (T := TX4) (N := 5) (n := 5) htg inX4 (htg _ q1_10)
  obtain ⟨c5, i5, k5⟩ := u_known (C := RX5) (T := TX5) (N := 19) (n := 19) htg inX5 (htg _ q3_1)
  obtain ⟨aI, kI, pI, fI, gI1, hI⟩ := Cond.arrayClass_spec (htg _ q1_95)
  obtain ⟨aJ, kJ, pJ, fJ, gJ1, hJ⟩ := Cond.arrayClass_spec (htg _ q1_58)
  have ovM := htt _ qn1_30
  have ovJ := htt _ qn1_60
  obtain ⟨pM, aM, kM, fM0, -, gM, hM, fM⟩ := Cond.arrayOver_spec ovM
  obtain ⟨aL, kL, pL, fL, gL, hL⟩ := ov_arr ovJ
  refine ⟨((fun k => if k = 0 then c0 else if k = 1 then c1 else if k = 2 then c2 else if k = 3 then c3 else if k = 4 then c4 else c5, fun k => if k = 0 then i0 else if k = 1 then i1 else if k = 2 then i2 else if k = 3 then i3 else if k = 4 then i4 else i5), aI, aJ, aM, aL), ⟨?_, ?_⟩, ?_, ovM, ovJ⟩
  · intro k q hq
    match k, hq with
    | 0, hq => cases hq; exact k0
    | 1, hq => cases hq; exact k1
    | 2, hq => cases hq; exact k2
    | 3, hq => cases hq; exact k3
    | 4, hq => cases hq; exact k4
    | 5, hq => cases hq; exact k5
    | k + 6, hq => simp [vwCl] at hq
  · intro k q hq
    match k, hq with
    | 0, hq => cases hq; exact ⟨fun N z => ⟨(fun k h => by cases h), kI, gI1, pI, hI⟩, fI⟩
    | 1, hq => cases hq; exact ⟨fun N z => ⟨(fun k h => by cases h), kJ, gJ1, pJ, hJ⟩, fJ⟩
    | 2, hq => cases hq; exact ⟨fun N z => ⟨(fun k h => by cases h), kM, gM, pM, hM⟩, kM, pM, gM, hM, fM0, fM⟩
    | 3, hq => cases hq; exact ⟨fun N z => ⟨(fun k h => by cases h), kL, gL, pL, hL⟩, fL⟩
    | k + 4, hq => simp [gtys] at hq
  · intro w hw
    simp only [gnest, List.mem_cons, List.not_mem_nil, or_false] at hw
    rcases hw with rfl | rfl | rfl | rfl | rfl | rfl | rfl | rfl | rfl
    · exact htt _ qn1_19
    · exact htt _ qn1_25
    · exact htt _ qn1_32
    · exact htt _ qn1_76
    · exact htt _ qn1_98
    · exact htt _ qn1_221
    · exact htt _ qn2_24
    · exact htt _ qn2_104
    · exact htt _ qn2_105
