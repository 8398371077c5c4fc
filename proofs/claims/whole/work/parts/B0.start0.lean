/-! ===== the start: what the tables say, once for all ===== -/
theorem arr_of {s : State} {c : ClassId} {k : Class} {ty : FieldType} (hk : s.vm.classes[c]? = some k) (hkind : ∃ comp, k.kind = .array comp ty) : ArrOfT s c ty := fun n z => ⟨fun k h => (by cases h), k, hk, hkind⟩
theorem st_K {s : State} {ar : Array Value} (hts : ∀ w ∈ lw_tbl, w.before ar s = true) : ∃ g : gG, kK g s ∧ va_AO "ConkerBouts$Yard" s ∧ va_AO "ConkerBouts$Game" s := by
  have hg : ∀ w ∈ gw, w.before ar s = true := fun w hw => hts w (List.mem_filter.mp hw).1
  obtain ⟨d1, i1, h1⟩ := u_known (C := RX1) (T := TX1) (N := 5) hg in_1 (hts _ m_88)
  obtain ⟨d2, i2, h2⟩ := u_known (C := RX2) (T := TX2) (N := 1) hg in_2 (hts _ m_273)
  obtain ⟨d3, i3, h3⟩ := u_known (C := RX3) (T := TX3) (N := 2) hg in_3 (hts _ m_144)
  obtain ⟨d4, i4, h4⟩ := u_known (C := RX4) (T := TX4) (N := 3) hg in_4 (hts _ m_158)
  obtain ⟨d5, i5, h5⟩ := u_known (C := RX5) (T := TX5) (N := 7) hg in_5 (hts _ m_203)
  obtain ⟨d6, i6, h6⟩ := u_known (C := RX6) (T := TX6) (N := 9) hg in_6 (hts _ m_233)
  obtain ⟨d7, i7, h7⟩ := u_known (C := RX7) (T := TX7) (N := 11) hg in_7 (hts _ m_94)
  obtain ⟨d8, i8, h8⟩ := u_known (C := RX8) (T := TX8) (N := 10) hg in_8 (hts _ m_80)
  obtain ⟨d9, i9, h9⟩ := u_known (C := RX9) (T := TX9) (N := 24) hg in_9 (hts _ m_955)
  obtain ⟨ci, ki, pi, q1, q2, q3⟩ := Cond.arrayClass_spec (args := ar) (first := s) (o := none) (s := s) (idx := []) (hts _ m_142)
  obtain ⟨cb, kb, pb, b1, b2, b3⟩ := Cond.arrayClass_spec (args := ar) (first := s) (o := none) (s := s) (idx := []) (hts _ m_1033)
  have oG : va_AO "ConkerBouts$Game" s := va_AO.of (hts _ m_201)
  have oY : va_AO "ConkerBouts$Yard" s := va_AO.of (hts _ m_240)
  obtain ⟨pg, cg, kg, g1, -, g2, g3, g4⟩ := Cond.arrayOver_spec (args := ar) (first := s) (o := none) (s := s) (idx := []) (n := "ConkerBouts$Game") (hts _ m_201)
  obtain ⟨py, cy, ky, y1, -, y2, y3, y4⟩ := Cond.arrayOver_spec (args := ar) (first := s) (o := none) (s := s) (idx := []) (n := "ConkerBouts$Yard") (hts _ m_240)
  refine ⟨((fun c => [d1, d2, d3, d4, d5, d6, d7, d8, d9].getD c d1, fun c => [i1, i2, i3, i4, i5, i6, i7, i8, i9].getD c i1), ci, cb, cg, cy), ⟨⟨fun c q hq => ?_, fun k q hq => ?_⟩, ?_, ?_⟩, oY, oG⟩
  · match c, hq with
    | 0, hq => cases hq; exact h1
    | 1, hq => cases hq; exact h2
    | 2, hq => cases hq; exact h3
    | 3, hq => cases hq; exact h4
    | 4, hq => cases hq; exact h5
    | 5, hq => cases hq; exact h6
    | 6, hq => cases hq; exact h7
    | 7, hq => cases hq; exact h8
    | 8, hq => cases hq; exact h9
    | c + 9, hq => exact absurd hq (by simp [vwCl])
  · match k, hq with
    | 0, hq => cases hq; exact ⟨arr_of q2 ⟨_, q3⟩, q1⟩
    | 1, hq => cases hq; exact ⟨arr_of b2 ⟨_, b3⟩, b1⟩
    | 2, hq => cases hq; exact ⟨arr_of g2 ⟨_, g3⟩, kg, pg, g2, g3, g1, g4⟩
    | 3, hq => cases hq; exact ⟨arr_of y2 ⟨_, y3⟩, ky, py, y2, y3, y1, y4⟩
    | k + 4, hq => exact absurd hq (by simp [gT])
  · exact fun a i b n d h hm => va_Nw.of rfl (hts _ hm)
  · exact fun a i x h hm => va_Nw.of rfl (hts _ hm)
