section PR
variable {f ep eq st mm : Nat → Int32} {a : Int32}
theorem pq_d2 (hF : pq_F f mm) (hE : pq_E ep eq mm) (hS : pq_S st mm) (ha : ∃ j : Nat, j < 64 ∧ a = nI j) (c : mm 12 = 2) : pq_F (s2_sequence f ep eq st a).2 (s7_decides mm a) := by
  obtain ⟨e0, e1, e2, -, -, e5⟩ := pq_bits ha
  obtain ⟨p0, p1, p2⟩ := pq_eye hE
  have h3 : f 3 = 2 := hF.1.trans c
  have h5 : f 5 = mm 14 := hF.2.2.1
  have s2 : st 2 = mm 3 := hS 2 (by decide)
  obtain ⟨l10, l20, l21, -⟩ := pq_lit
  simp only [s2_sequence, s2_sequenceLighting, s2_lightPilot, s2_lockOut, s7_decides, s7_lights, s7_lacks, h3, h5, s2, c, e0, e1, e2, l10, l20, l21, if_true, if_false]
  rcases z7_has a 1 with b1 | b1
  · simp only [b1, if_true, l10, if_false]; exact pq_begin hF _ _
  · rcases z7_has a 2 with b2 | b2
    · simp only [b1, b2, if_true, l10, if_false]; exact pq_begin hF _ _
    · rcases z7_has a 0 with b0 | b0
      · simp only [b1, b2, b0, if_true, l10, if_false]; exact pq_begin hF _ _
      · simp only [b1, b2, b0, c, p0, if_true, l10, if_false]
        by_cases g1 : ep 0 = 0
        · by_cases g2 : mm 14 < mm 3
          · simp only [g1, g2, if_true]; exact hF
          · simp only [g1, g2, if_true, if_false]; exact pq_begin hF _ _
        · simp only [g1, if_false]; exact pq_begin hF _ _
theorem pq_d3 (hF : pq_F f mm) (hE : pq_E ep eq mm) (hS : pq_S st mm) (ha : ∃ j : Nat, j < 64 ∧ a = nI j) (c : mm 12 = 3) : pq_F (s2_sequence f ep eq st a).2 (s7_decides mm a) := by
  obtain ⟨e0, e1, e2, -, -, e5⟩ := pq_bits ha
  obtain ⟨p0, p1, p2⟩ := pq_eye hE
  have h3 : f 3 = 3 := hF.1.trans c
  have h5 : f 5 = mm 14 := hF.2.2.1
  have s3 : st 3 = mm 4 := hS 3 (by decide)
  obtain ⟨l10, -, -, l30, l31, l32, -⟩ := pq_lit
  simp only [s2_sequence, s2_sequenceLighting, s2_lightMain, s2_lockOut, s7_decides, s7_lights, s7_lacks, h3, h5, s3, c, e0, e1, e2, l10, l30, l31, l32, if_true, if_false]
  rcases z7_has a 1 with b1 | b1
  · simp only [b1, if_true, l10, if_false]; exact pq_begin hF _ _
  · rcases z7_has a 2 with b2 | b2
    · simp only [b1, b2, if_true, l10, if_false]; exact pq_begin hF _ _
    · rcases z7_has a 0 with b0 | b0
      · simp only [b1, b2, b0, if_true, l10, if_false]; exact pq_begin hF _ _
      · simp only [b1, b2, b0, c, p1, l32, if_true, l10, if_false]
        by_cases g1 : eq 0 = 0
        · by_cases g2 : mm 14 < mm 4
          · simp only [g1, g2, if_true]; exact hF
          · simp only [g1, g2, if_true, if_false]; exact pq_begin hF _ _
        · simp only [g1, if_false]; exact pq_begin hF _ _
theorem pq_d4 (hF : pq_F f mm) (hE : pq_E ep eq mm) (hS : pq_S st mm) (ha : ∃ j : Nat, j < 64 ∧ a = nI j) (hck : 0 < (mm 8).toInt) (c : mm 12 = 4) : pq_F (s2_sequence f ep eq st a).2 (s7_decides mm a) := by
  obtain ⟨e0, e1, e2, -, -, e5⟩ := pq_bits ha
  obtain ⟨p0, p1, p2⟩ := pq_eye hE
  have h3 : f 3 = 4 := hF.1.trans c
  have h5 : f 5 = mm 14 := hF.2.2.1
  have s7 : st 7 = mm 8 := hS 7 (by decide)
  have k8 : ¬ mm 8 ≤ 0 := by
    intro q
    rw [Int32.le_iff_toInt_le] at q
    have h9 : (0 : Int32).toInt = 0 := by decide
    omega
  obtain ⟨l10, -, -, -, -, -, l40, l41, l42, l43, -⟩ := pq_lit
  simp only [s2_sequence, s2_sequenceRun, s2_isCheckDue, s2_lockOut, s7_decides, s7_runs, s7_lacks, h3, h5, s7, k8, c, e0, e1, e2, e5, l10, l40, l41, l42, l43, if_true, if_false]
  rcases z7_has a 1 with b1 | b1
  · simp only [b1, if_true, l10, if_false]; exact pq_begin hF _ _
  · rcases z7_has a 2 with b2 | b2
    · simp only [b1, b2, if_true, l10, if_false]; exact pq_begin hF _ _
    · simp only [b1, b2, p1, l10, if_true, if_false]
      by_cases d1 : eq 0 = 0
      · simp only [d1, if_true]; exact pq_begin hF _ _
      · by_cases d : mm 14 - mm 14 / mm 8 * mm 8 = 0
        · rcases z7_has a 5 with b5 | b5
          · simp only [d1, d, b5, l10, if_true, if_false]; exact pq_begin hF _ _
          · rcases z7_has a 0 with b0 | b0
            · simp only [d1, d, b5, b0, l10, if_true, if_false]; exact pq_begin hF _ _
            · simp only [d1, d, b5, b0, l10, if_true, if_false]; exact hF
        · rcases z7_has a 0 with b0 | b0
          · simp only [d1, d, b0, l10, if_true, if_false]; exact pq_begin hF _ _
          · simp only [d1, d, b0, l10, if_true, if_false]; exact hF
theorem pq_decides (hF : pq_F f mm) (hE : pq_E ep eq mm) (hS : pq_S st mm) (ha : ∃ j : Nat, j < 64 ∧ a = nI j) (hck : 0 < (mm 8).toInt) : pq_F (s2_sequence f ep eq st a).2 (s7_decides mm a) := by
  by_cases c0 : mm 12 = 0
  · exact pq_d0 hF hE hS ha c0
  by_cases c1 : mm 12 = 1
  · exact pq_d1 hF hE hS ha c1
  by_cases c2 : mm 12 = 2
  · exact pq_d2 hF hE hS ha c2
  by_cases c3 : mm 12 = 3
  · exact pq_d3 hF hE hS ha c3
  by_cases c4 : mm 12 = 4
  · exact pq_d4 hF hE hS ha hck c4
  by_cases c5 : mm 12 = 5
  · exact pq_d5 hF hE hS c5
  have h3 : f 3 = mm 12 := hF.1
  simp only [s2_sequence, s7_decides, h3, c0, c1, c2, c3, c4, c5, if_false]
  exact hF
/-- the sight of the pilot's eye -/
theorem pq_look0 (hE : pq_E ep eq mm) (hS : pq_S st mm) (ha : ∃ j : Nat, j < 64 ∧ a = nI j) : pq_E (s2_look f st ep (s6_isOn a 8)) eq (upd (s7_looks mm a 0 (mm 19)).2 19 (s7_looks mm a 0 (mm 19)).1) := by
  obtain ⟨-, -, -, e3, -, -⟩ := pq_bits ha
  obtain ⟨p0, p1, p2⟩ := pq_eye hE
  obtain ⟨hp, hq, h18, h19, h20⟩ := hE
  have s5 : st 5 = mm 6 := hS 5 (by decide)
  have s6 : st 6 = mm 7 := hS 6 (by decide)
  have t3 : (3 + 0 : Int32) = 3 := by decide
  have l01 : ¬ (0 : Int32) = 1 := by decide
  have l10 : ¬ (1 : Int32) = 0 := by decide
  simp only [s2_look, s1_look, s7_looks, e3, t3, p0, s5, s6, h19]
  rcases z7_has a 3 with b | b <;> rcases hp with hp | hp
  · simp only [b, hp, if_true]
    exact ⟨Or.inl (by simpa [upd] using hp), hq, by simpa [upd, hp] using h18, by simp [upd], by simpa [upd] using h20⟩
  · simp only [b, hp, l01, if_true, if_false]
    by_cases d : mm 7 ≤ mm 19 + 1
    · have d' : ¬ mm 19 + 1 < mm 7 := by
        rw [Int32.lt_iff_toInt_lt]
        rw [Int32.le_iff_toInt_le] at d
        omega
      simp only [d, d', if_true, if_false]
      refine ⟨Or.inl (by simp [upd]), hq, ?_, by simp [upd], by simpa [upd] using h20⟩
      show mm 18 + -((1 : Int32) <<< ((0 : Int32) &&& 31)) = 0 + 2 * eq 0
      rw [h18, hp]
      rcases hq with hq | hq <;> rw [hq] <;> decide
    · have d' : mm 19 + 1 < mm 7 := by
        rw [Int32.lt_iff_toInt_lt]
        exact cw_lt1 d
      simp only [d, d', if_true, if_false]
      exact ⟨Or.inr (by simpa [upd] using hp), hq, by simpa [upd] using h18, by simp [upd], by simpa [upd] using h20⟩
  · simp only [b, hp, l10, if_true, if_false]
    by_cases d : mm 6 ≤ mm 19 + 1
    · have d' : ¬ mm 19 + 1 < mm 6 := by
        rw [Int32.lt_iff_toInt_lt]
        rw [Int32.le_iff_toInt_le] at d
        omega
      simp only [d, d', if_true, if_false]
      refine ⟨Or.inr (by simp [upd]), hq, ?_, by simp [upd], by simpa [upd] using h20⟩
      show mm 18 + ((1 : Int32) <<< ((0 : Int32) &&& 31)) = 1 + 2 * eq 0
      rw [h18, hp]
      rcases hq with hq | hq <;> rw [hq] <;> decide
    · have d' : mm 19 + 1 < mm 6 := by
        rw [Int32.lt_iff_toInt_lt]
        exact cw_lt1 d
      simp only [d, d', if_true, if_false]
      exact ⟨Or.inl (by simpa [upd] using hp), hq, by simpa [upd] using h18, by simp [upd], by simpa [upd] using h20⟩
  · simp only [b, hp, if_true]
    exact ⟨Or.inr (by simpa [upd] using hp), hq, by simpa [upd, hp] using h18, by simp [upd], by simpa [upd] using h20⟩
/-- the sight of the main eye -/
theorem pq_look1 (hE : pq_E ep eq mm) (hS : pq_S st mm) (ha : ∃ j : Nat, j < 64 ∧ a = nI j) : pq_E ep (s2_look f st eq (s6_isOn a 16)) (upd (s7_looks mm a 1 (mm 20)).2 20 (s7_looks mm a 1 (mm 20)).1) := by
  obtain ⟨-, -, -, -, e4, -⟩ := pq_bits ha
  obtain ⟨p0, p1, p2⟩ := pq_eye hE
  obtain ⟨hp, hq, h18, h19, h20⟩ := hE
  have s5 : st 5 = mm 6 := hS 5 (by decide)
  have s6 : st 6 = mm 7 := hS 6 (by decide)
  have t3 : (3 + 1 : Int32) = 4 := by decide
  have l01 : ¬ (0 : Int32) = 1 := by decide
  have l10 : ¬ (1 : Int32) = 0 := by decide
  simp only [s2_look, s1_look, s7_looks, e4, t3, p1, s5, s6, h20]
  rcases z7_has a 4 with b | b <;> rcases hq with hq | hq
  · simp only [b, hq, if_true]
    exact ⟨hp, Or.inl (by simpa [upd] using hq), by simpa [upd, hq] using h18, by simpa [upd] using h19, by simp [upd]⟩
  · simp only [b, hq, l01, if_true, if_false]
    by_cases d : mm 7 ≤ mm 20 + 1
    · have d' : ¬ mm 20 + 1 < mm 7 := by
        rw [Int32.lt_iff_toInt_lt]
        rw [Int32.le_iff_toInt_le] at d
        omega
      simp only [d, d', if_true, if_false]
      refine ⟨hp, Or.inl (by simp [upd]), ?_, by simpa [upd] using h19, by simp [upd]⟩
      show mm 18 + -((1 : Int32) <<< ((1 : Int32) &&& 31)) = ep 0 + 2 * 0
      rw [h18, hq]
      rcases hp with hp | hp <;> rw [hp] <;> decide
    · have d' : mm 20 + 1 < mm 7 := by
        rw [Int32.lt_iff_toInt_lt]
        exact cw_lt1 d
      simp only [d, d', if_true, if_false]
      exact ⟨hp, Or.inr (by simpa [upd] using hq), by simpa [upd] using h18, by simpa [upd] using h19, by simp [upd]⟩
  · simp only [b, hq, l10, if_true, if_false]
    by_cases d : mm 6 ≤ mm 20 + 1
    · have d' : ¬ mm 20 + 1 < mm 6 := by
        rw [Int32.lt_iff_toInt_lt]
        rw [Int32.le_iff_toInt_le] at d
        omega
      simp only [d, d', if_true, if_false]
      refine ⟨hp, Or.inr (by simp [upd]), ?_, by simpa [upd] using h19, by simp [upd]⟩
      show mm 18 + ((1 : Int32) <<< ((1 : Int32) &&& 31)) = ep 0 + 2 * 1
      rw [h18, hq]
      rcases hp with hp | hp <;> rw [hp] <;> decide
    · have d' : mm 20 + 1 < mm 6 := by
        rw [Int32.lt_iff_toInt_lt]
        exact cw_lt1 d
      simp only [d, d', if_true, if_false]
      exact ⟨hp, Or.inl (by simpa [upd] using hq), by simpa [upd] using h18, by simpa [upd] using h19, by simp [upd]⟩
  · simp only [b, hq, if_true]
    exact ⟨hp, Or.inr (by simpa [upd] using hq), by simpa [upd, hq] using h18, by simpa [upd] using h19, by simp [upd]⟩
end PR
