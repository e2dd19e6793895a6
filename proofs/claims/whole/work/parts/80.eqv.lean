/-- the settings of the class and of the model agree -/
def pq_S (st mm : Nat → Int32) : Prop := ∀ k, k ≤ 10 → st k = mm (k + 1)
/-- the furnace of the class and the fields of the model agree -/
def pq_F (f mm : Nat → Int32) : Prop := f 3 = mm 12 ∧ f 4 = mm 13 ∧ f 5 = mm 14 ∧ f 6 = mm 15 ∧ f 7 = mm 16 ∧ f 8 = mm 17
/-- the two eyes of the class and the model's packed eyes agree -/
def pq_E (ep eq mm : Nat → Int32) : Prop := (ep 0 = 0 ∨ ep 0 = 1) ∧ (eq 0 = 0 ∨ eq 0 = 1) ∧ mm 18 = ep 0 + 2 * eq 0 ∧ ep 1 = mm 19 ∧ eq 1 = mm 20
/-- how large the positions, their steps and the rate may be -/
def pq_B (mm : Nat → Int32) : Prop := (0 ≤ (mm 15).toInt ∧ (mm 15).toInt ≤ 100) ∧ (0 ≤ (mm 16).toInt ∧ (mm 16).toInt ≤ 100) ∧ (0 ≤ (mm 10).toInt ∧ (mm 10).toInt ≤ 1000) ∧ (0 ≤ (mm 11).toInt ∧ (mm 11).toInt ≤ 1000) ∧ (0 ≤ (mm 1).toInt ∧ (mm 1).toInt ≤ 100) ∧ 0 < (mm 8).toInt
theorem pq_bits {a : Int32} (h : ∃ j : Nat, j < 64 ∧ a = nI j) : s6_isOn a 1 = s7_has a 0 ∧ s6_isOn a 2 = s7_has a 1 ∧ s6_isOn a 4 = s7_has a 2 ∧ s6_isOn a 8 = s7_has a 3 ∧ s6_isOn a 16 = s7_has a 4 ∧ s6_isOn a 32 = s7_has a 5 := by
  have hh : ∀ j : Nat, j < 64 → (s6_isOn (nI j) 1 = s7_has (nI j) 0 ∧ s6_isOn (nI j) 2 = s7_has (nI j) 1 ∧ s6_isOn (nI j) 4 = s7_has (nI j) 2 ∧ s6_isOn (nI j) 8 = s7_has (nI j) 3 ∧ s6_isOn (nI j) 16 = s7_has (nI j) 4 ∧ s6_isOn (nI j) 32 = s7_has (nI j) 5) := by decide +kernel
  obtain ⟨j, hj, rfl⟩ := h
  exact hh j hj
theorem pq_begin {f mm : Nat → Int32} (h : pq_F f mm) (a b : Int32) : pq_F (s2_begin f a b).2 (s7_begins mm a b) := by
  obtain ⟨h3, h4, h5, h6, h7, h8⟩ := h
  by_cases c3 : a = 3
  · simp [pq_F, s2_begin, s7_begins, s2_isMainOpen, upd, c3, h6, h7]
  · by_cases c4 : a = 4
    · simp [pq_F, s2_begin, s7_begins, s2_isMainOpen, upd, c4, h6, h7]
    · simp [pq_F, s2_begin, s7_begins, s2_isMainOpen, upd, c3, c4, h6]
theorem pq_upd8 {f mm : Nat → Int32} (h : pq_F f mm) (v : Int32) : pq_F (upd f 8 v) (upd mm 17 v) := by
  obtain ⟨h3, h4, h5, h6, h7, h8⟩ := h
  simp [pq_F, upd, h3, h4, h5, h6, h7]
theorem pq_lit : (¬ (1 : Int32) = 0) ∧ (¬ (2 : Int32) = 0) ∧ (¬ (2 : Int32) = 1) ∧ (¬ (3 : Int32) = 0) ∧ (¬ (3 : Int32) = 1) ∧ (¬ (3 : Int32) = 2) ∧ (¬ (4 : Int32) = 0) ∧ (¬ (4 : Int32) = 1) ∧ (¬ (4 : Int32) = 2) ∧ (¬ (4 : Int32) = 3) ∧ (¬ (5 : Int32) = 0) ∧ (¬ (5 : Int32) = 1) ∧ (¬ (5 : Int32) = 2) ∧ (¬ (5 : Int32) = 3) ∧ (¬ (5 : Int32) = 4) := by decide
theorem pq_eye {ep eq mm : Nat → Int32} (h : pq_E ep eq mm) : s7_has (mm 18) 0 = ep 0 ∧ s7_has (mm 18) 1 = eq 0 ∧ (mm 18 ≤ 0 ↔ ep 0 = 0 ∧ eq 0 = 0) := by
  obtain ⟨hp, hq, h18, -⟩ := h
  rcases hp with hp | hp <;> rcases hq with hq | hq <;> rw [h18, hp, hq] <;> decide
section PQ
variable {f ep eq st mm : Nat → Int32} {a : Int32}
theorem pq_d0 (hF : pq_F f mm) (hE : pq_E ep eq mm) (hS : pq_S st mm) (ha : ∃ j : Nat, j < 64 ∧ a = nI j) (c : mm 12 = 0) : pq_F (s2_sequence f ep eq st a).2 (s7_decides mm a) := by
  obtain ⟨e0, e1, e2, -, -, e5⟩ := pq_bits ha
  obtain ⟨p0, p1, p2⟩ := pq_eye hE
  have h3 : f 3 = 0 := hF.1.trans c
  simp only [s2_sequence, s2_sequenceOff, s2_lockOut, s2_hasFlame, s7_decides, h3, c, e0, if_true]
  by_cases d1 : ep 0 = 0
  · by_cases d2 : eq 0 = 0
    · have d3 : mm 18 ≤ 0 := p2.mpr ⟨d1, d2⟩
      rcases z7_has a 0 with b0 | b0
      · simp only [d1, d2, d3, b0, if_true]; exact hF
      · simp only [d1, d2, d3, b0, if_true, pq_lit.1, if_false]; exact pq_begin hF _ _
    · have d3 : ¬ mm 18 ≤ 0 := fun q => d2 (p2.mp q).2
      simp only [d1, d2, d3, if_true, pq_lit.1, if_false]; exact pq_begin hF _ _
  · have d3 : ¬ mm 18 ≤ 0 := fun q => d1 (p2.mp q).1
    simp only [d1, d3, pq_lit.1, if_false]; exact pq_begin hF _ _
theorem pq_d1 (hF : pq_F f mm) (hE : pq_E ep eq mm) (hS : pq_S st mm) (ha : ∃ j : Nat, j < 64 ∧ a = nI j) (c : mm 12 = 1) : pq_F (s2_sequence f ep eq st a).2 (s7_decides mm a) := by
  obtain ⟨e0, e1, e2, -, -, e5⟩ := pq_bits ha
  obtain ⟨p0, p1, p2⟩ := pq_eye hE
  have h3 : f 3 = 1 := hF.1.trans c
  have h5 : f 5 = mm 14 := hF.2.2.1
  have h6 : f 6 = mm 15 := hF.2.2.2.1
  have h8 : f 8 = mm 17 := hF.2.2.2.2.2
  have s1 : st 1 = mm 2 := hS 1 (by decide)
  have s8 : st 8 = mm 9 := hS 8 (by decide)
  simp only [s2_sequence, s2_sequencePurge, s2_lockOut, s2_hasFlame, s7_decides, s7_purges, h3, h5, h6, h8, s1, s8, c, e0, e1, pq_lit.1, if_true, if_false]
  rcases z7_has a 0 with b0 | b0
  · simp only [b0, if_true]; exact pq_begin hF _ _
  · simp only [b0, pq_lit.1, if_false]
    by_cases d1 : ep 0 = 0
    · by_cases d2 : eq 0 = 0
      · have d3 : mm 18 ≤ 0 := p2.mpr ⟨d1, d2⟩
        simp only [d1, d2, d3, if_true]
        generalize (if s7_has a 1 = 0 then (0 : Int32) else if mm 15 < 70 then 0 else mm 17 + mm 15) = v
        by_cases g1 : v < 4 * mm 9
        · by_cases g2 : mm 14 < mm 2
          · simp only [g1, g2, if_true]; exact pq_upd8 hF _
          · simp only [g1, g2, if_true, if_false]; exact pq_begin (pq_upd8 hF _) _ _
        · simp only [g1, if_false]; exact pq_begin (pq_upd8 hF _) _ _
      · have d3 : ¬ mm 18 ≤ 0 := fun q => d2 (p2.mp q).2
        simp only [d1, d2, d3, if_true, pq_lit.1, if_false]; exact pq_begin hF _ _
    · have d3 : ¬ mm 18 ≤ 0 := fun q => d1 (p2.mp q).1
      simp only [d1, d3, pq_lit.1, if_false]; exact pq_begin hF _ _
theorem pq_d5 (hF : pq_F f mm) (hE : pq_E ep eq mm) (hS : pq_S st mm) (c : mm 12 = 5) : pq_F (s2_sequence f ep eq st a).2 (s7_decides mm a) := by
  obtain ⟨p0, p1, p2⟩ := pq_eye hE
  have h3 : f 3 = 5 := hF.1.trans c
  have h5 : f 5 = mm 14 := hF.2.2.1
  have s4 : st 4 = mm 5 := hS 4 (by decide)
  obtain ⟨-, -, -, -, -, -, -, -, -, -, l50, l51, l52, l53, l54⟩ := pq_lit
  simp only [s2_sequence, s2_sequenceAfterPurge, s2_lockOut, s2_hasFlame, s7_decides, h3, h5, s4, c, l50, l51, l52, l53, l54, if_true, if_false]
  by_cases d : mm 5 ≤ mm 14
  · have d' : ¬ mm 14 < mm 5 := by
      rw [Int32.lt_iff_toInt_lt]
      rw [Int32.le_iff_toInt_le] at d
      omega
    simp only [d, d', if_true, if_false]
    by_cases d1 : ep 0 = 0
    · by_cases d2 : eq 0 = 0
      · have d3 : mm 18 ≤ 0 := p2.mpr ⟨d1, d2⟩
        simp only [d1, d2, d3, if_true]; exact pq_begin hF _ _
      · have d3 : ¬ mm 18 ≤ 0 := fun q => d2 (p2.mp q).2
        simp only [d1, d2, d3, if_true, pq_lit.1, if_false]; exact pq_begin hF _ _
    · have d3 : ¬ mm 18 ≤ 0 := fun q => d1 (p2.mp q).1
      simp only [d1, d3, pq_lit.1, if_false]; exact pq_begin hF _ _
  · have d' : mm 14 < mm 5 := by
      rw [Int32.lt_iff_toInt_lt]
      exact cw_lt1 d
    simp only [d, d', if_true, if_false]; exact hF
end PQ
