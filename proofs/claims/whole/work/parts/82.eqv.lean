theorem pq_sub {a b : Int32} (ha : -5000 ≤ a.toInt ∧ a.toInt ≤ 5000) (hb : -5000 ≤ b.toInt ∧ b.toInt ≤ 5000) : (a - b).toInt = a.toInt - b.toInt := by
  rw [Int32.toInt_sub, Int.bmod_def]
  split <;> omega
theorem pq_add {a b : Int32} (ha : -5000 ≤ a.toInt ∧ a.toInt ≤ 5000) (hb : -5000 ≤ b.toInt ∧ b.toInt ≤ 5000) : (a + b).toInt = a.toInt + b.toInt := by
  rw [Int32.toInt_add, Int.bmod_def]
  split <;> omega
/-- both ways of moving a position by at most a step agree -/
theorem pq_move {a b c : Int32} (ha : 0 ≤ a.toInt ∧ a.toInt ≤ 100) (hb : 0 ≤ b.toInt ∧ b.toInt ≤ 100) (hc : 0 ≤ c.toInt ∧ c.toInt ≤ 1000) :
    s2_moved a b c = s7_nears a b c ∧ 0 ≤ (s7_nears a b c).toInt ∧ (s7_nears a b c).toInt ≤ 100 := by
  have e1 : (a - b).toInt = a.toInt - b.toInt := pq_sub (by omega) (by omega)
  have e2 : (b - a).toInt = b.toInt - a.toInt := pq_sub (by omega) (by omega)
  have e3 : (a - c).toInt = a.toInt - c.toInt := pq_sub (by omega) (by omega)
  have e4 : (a + c).toInt = a.toInt + c.toInt := pq_add (by omega) (by omega)
  have e5 : a - (a - b) = b := by
    apply Int32.toInt_inj.mp
    rw [pq_sub (by omega) (by omega), e1]
    omega
  have e6 : a + (b - a) = b := by
    apply Int32.toInt_inj.mp
    rw [pq_add (by omega) (by omega), e2]
    omega
  simp only [s2_moved, s7_nears]
  by_cases g : b ≤ a
  · simp only [if_pos g]
    rw [Int32.le_iff_toInt_le] at g
    by_cases g1 : c ≤ a - b
    · have g2 : ¬ a - c < b := by
        rw [Int32.lt_iff_toInt_lt]
        rw [Int32.le_iff_toInt_le] at g1
        omega
      rw [if_pos g1, if_neg g2]
      rw [Int32.le_iff_toInt_le] at g1
      exact ⟨rfl, by omega, by omega⟩
    · have g3 := cw_lt1 g1
      have g2 : a - c < b := by
        rw [Int32.lt_iff_toInt_lt]
        omega
      rw [if_neg g1, if_pos g2, e5]
      exact ⟨rfl, hb⟩
  · simp only [if_neg g]
    have g0 := cw_lt1 g
    by_cases g1 : c ≤ b - a
    · have g2 : ¬ b < a + c := by
        rw [Int32.lt_iff_toInt_lt]
        rw [Int32.le_iff_toInt_le] at g1
        omega
      rw [if_pos g1, if_neg g2]
      rw [Int32.le_iff_toInt_le] at g1
      exact ⟨rfl, by omega, by omega⟩
    · have g3 := cw_lt1 g1
      have g2 : b < a + c := by
        rw [Int32.lt_iff_toInt_lt]
        omega
      rw [if_neg g1, if_pos g2, e6]
      exact ⟨rfl, hb⟩
theorem pq_fall {a : Int32} (ha : 0 ≤ a.toInt ∧ a.toInt ≤ 100) : s7_nears a 0 100 = 0 := by
  have h0 : (0 : Int32).toInt = 0 := by decide
  have h1 : (100 : Int32).toInt = 100 := by decide
  have h := (pq_move (c := 100) ha (b := 0) (by rw [h0]; omega) (by rw [h1]; omega)).1
  rw [← h]
  simp only [s2_moved]
  have g : (0 : Int32) ≤ a := by
    rw [Int32.le_iff_toInt_le]
    omega
  have e : (a - 100).toInt = a.toInt - 100 := by
    rw [pq_sub (by omega) (by rw [h1]; omega), h1]
  rw [if_pos g]
  by_cases g1 : a - 100 < 0
  · rw [if_pos g1]
  · rw [if_neg g1]
    have g2 := cw_le2 g1
    apply Int32.toInt_inj.mp
    omega
theorem pq_max {a b : Int32} : (if a < b then b else a) = (if a ≤ b then b else a) := by
  by_cases g : a < b
  · have g1 : a ≤ b := by
      rw [Int32.le_iff_toInt_le]
      rw [Int32.lt_iff_toInt_lt] at g
      omega
    rw [if_pos g, if_pos g1]
  · rw [if_neg g]
    by_cases g1 : a ≤ b
    · rw [if_pos g1]
      have g2 := cw_le2 g
      rw [Int32.le_iff_toInt_le] at g1
      apply Int32.toInt_inj.mp
      omega
    · rw [if_neg g1]
theorem pq_min {a b : Int32} : (if a < b then a else b) = (if a ≤ b then a else b) := by
  by_cases g : a < b
  · have g1 : a ≤ b := by
      rw [Int32.le_iff_toInt_le]
      rw [Int32.lt_iff_toInt_lt] at g
      omega
    rw [if_pos g, if_pos g1]
  · rw [if_neg g]
    by_cases g1 : a ≤ b
    · rw [if_pos g1]
      have g2 := cw_le2 g
      rw [Int32.le_iff_toInt_le] at g1
      apply Int32.toInt_inj.mp
      omega
    · rw [if_neg g1]
/-- where the air strives to, and where the fuel does -/
def pq_ga (mm : Nat → Int32) : Int32 := if mm 12 = 0 then 0 else (if mm 12 = 1 then 100 else (if mm 12 = 2 then 30 else (if mm 12 = 3 then 30 else (if mm 12 = 4 then (if mm 1 ≤ mm 16 then mm 16 else mm 1) else 60))))
def pq_gf (mm : Nat → Int32) : Int32 := if mm 12 = 3 then 20 else (if mm 12 = 4 then (if mm 15 ≤ mm 1 then mm 15 else mm 1) else 0)
def pq_sf (mm : Nat → Int32) : Int32 := if mm 12 = 3 then mm 11 else (if mm 12 = 4 then mm 11 else 100)
theorem pq_goE (mm : Nat → Int32) : s7_goes mm = upd (upd mm 15 (s7_nears (mm 15) (pq_ga mm) (mm 10))) 16 (s7_nears (mm 16) (pq_gf mm) (pq_sf mm)) := rfl
theorem pq_gaB {mm : Nat → Int32} (hB : pq_B mm) : 0 ≤ (pq_ga mm).toInt ∧ (pq_ga mm).toInt ≤ 100 := by
  obtain ⟨h15, h16, h10, h11, h1, h8⟩ := hB
  simp only [pq_ga]
  repeat' (first | exact h16 | exact h1 | decide | split)
theorem pq_gfB {mm : Nat → Int32} (hB : pq_B mm) : 0 ≤ (pq_gf mm).toInt ∧ (pq_gf mm).toInt ≤ 100 := by
  obtain ⟨h15, h16, h10, h11, h1, h8⟩ := hB
  simp only [pq_gf]
  repeat' (first | exact h15 | exact h1 | decide | split)
theorem pq_sfB {mm : Nat → Int32} (hB : pq_B mm) : 0 ≤ (pq_sf mm).toInt ∧ (pq_sf mm).toInt ≤ 1000 := by
  obtain ⟨h15, h16, h10, h11, h1, h8⟩ := hB
  simp only [pq_sf]
  repeat' (first | exact h11 | decide | split)
section PT
variable {f ep eq st mm : Nat → Int32} {a : Int32}
theorem pq_goesB (hB : pq_B mm) : pq_B (s7_goes mm) := by
  have m1 := (pq_move hB.1 (pq_gaB hB) hB.2.2.1).2
  have m2 := (pq_move hB.2.1 (pq_gfB hB) (pq_sfB hB)).2
  obtain ⟨h15, h16, h10, h11, h1, h8⟩ := hB
  rw [pq_goE]
  exact ⟨m1, m2, h10, h11, h1, h8⟩
theorem pq_goes (hF : pq_F f mm) (hS : pq_S st mm) (hB : pq_B mm) : pq_F (s2_movePositions f ep eq st) (s7_goes mm) := by
  have m1 := (pq_move hB.1 (pq_gaB hB) hB.2.2.1).1
  have m2 := (pq_move hB.2.1 (pq_gfB hB) (c := mm 11) hB.2.2.2.1).1
  obtain ⟨h3, h4, h5, h6, h7, h8⟩ := hF
  have t0 : st 0 = mm 1 := hS 0 (by decide)
  have t9 : st 9 = mm 10 := hS 9 (by decide)
  have t10 : st 10 = mm 11 := hS 10 (by decide)
  have ga : s2_airGoal f ep eq st = pq_ga mm := by
    simp only [s2_airGoal, pq_ga, h3, h7, t0, pq_max]
  have gf : s2_fuelGoal f ep eq st = pq_gf mm := by
    simp only [s2_fuelGoal, pq_gf, h3, h6, t0, pq_min]
  have l10 : ¬ (1 : Int32) = 0 := by decide
  have l43 : ¬ (4 : Int32) = 3 := by decide
  rw [pq_goE]
  simp only [s2_movePositions, ga, gf, h6, h7, t9, t10, m1]
  have e3 : ∀ v : Int32, upd f 6 v 3 = mm 12 := fun v => h3
  simp only [s2_isMainOpen, e3]
  refine ⟨h3, h4, h5, rfl, ?_, h8⟩
  show (if (if mm 12 = 3 then (1 : Int32) else if mm 12 = 4 then 1 else 0) = 0 then pq_gf mm else s2_moved (mm 16) (pq_gf mm) (mm 11)) = s7_nears (mm 16) (pq_gf mm) (pq_sf mm)
  by_cases c3 : mm 12 = 3
  · simp only [c3, if_true, l10, if_false, m2, pq_sf]
  · by_cases c4 : mm 12 = 4
    · simp only [c4, l43, if_true, l10, if_false, m2, pq_sf]
    · simp only [c3, c4, if_true, if_false, pq_gf, pq_sf]
      exact (pq_fall hB.2.1).symm
theorem pq_Fc {m m2 : Nat → Int32} (h : pq_F f m) (h2 : ∀ k, 12 ≤ k → k ≤ 17 → m2 k = m k) : pq_F f m2 := by
  obtain ⟨h3, h4, h5, h6, h7, h8⟩ := h
  exact ⟨h3.trans (h2 12 (by decide) (by decide)).symm, h4.trans (h2 13 (by decide) (by decide)).symm, h5.trans (h2 14 (by decide) (by decide)).symm, h6.trans (h2 15 (by decide) (by decide)).symm, h7.trans (h2 16 (by decide) (by decide)).symm, h8.trans (h2 17 (by decide) (by decide)).symm⟩
end PT
