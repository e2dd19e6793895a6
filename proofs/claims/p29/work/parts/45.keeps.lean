/-! PURE: 'keeps' answers 1 -/
section TK
variable {b f ep eq st hh t1 t2 t3 : Nat → Int32}
theorem te_tp : ∀ (n9 i : Nat) (x y z : Nat → Int32), i + n9 = 302 → 1 ≤ n9 → 1 ≤ i → ¬ s6_toPilot_L b f ep eq st n9 x y z (nI i) = 0 := by
  intro n9
  induction n9 with
  | zero => intro i x y z _ h; omega
  | succ n9 ih =>
    intro i x y z h1 h2 h3
    simp only [s6_toPilot_L]
    by_cases c : i = 301
    · rw [c, if_pos (show (300 : Int32) < nI 301 by decide)]
      decide
    · rw [if_neg (show ¬ (300 : Int32) < nI i from nI_nlt (a := 300) (by omega) (by decide))]
      by_cases d : s2_isPilotOpen (s2_tick x y z st 7).2.1 = 0
      · rw [if_pos d, nI_1]
        exact ih (i + 1) _ _ _ (by omega) (by omega) (by omega)
      · rw [if_neg d]
        exact nI_ne0 (by omega) (by omega)
theorem te_po : (if s6_toPilot b f ep eq st = 0 then (1 : Int32) else 0) = s6_isOpen b f 0 := by
  have e0 : s6_isOpen b f 0 = s2_isPilotOpen f := rfl
  rw [e0]
  by_cases c : s2_isPilotOpen f = 0
  · have e1 : ¬ s6_toPilot b f ep eq st = 0 := by
      simp only [s6_toPilot]
      rw [if_pos c]
      exact te_tp 301 1 f ep eq (by omega) (by omega) (by omega)
    rw [if_neg e1, c]
  · have e1 : s6_toPilot b f ep eq st = 0 := by
      simp only [s6_toPilot]
      rw [if_neg c]
    rw [if_pos e1]
    rcases z2_isPilotOpen f with q | q
    · exact absurd q c
    · exact q.symm
theorem te_hk : s3_has hh (hh 4) = 0 := by
  simp only [s3_has]
  split
  · rfl
  · rw [if_pos (Int32.le_refl _)]
theorem te_hm : s3_has hh (-1) = 0 := by
  simp only [s3_has]
  rw [if_pos (show (-1 : Int32) < 0 by decide)]
theorem te_a3 {k : Int32} (h : s3_has hh k = 0) : sL_asks3 b hh t1 t2 t3 k 0 = (-101) ∧ sL_asks4 b hh t1 t2 t3 k 0 = (-101) ∧ sL_asks5 b hh t1 t2 t3 k 0 = (-101) := by
  have e : ¬ (1 : Int32) = 0 := by decide
  simp only [sL_asks3, sL_asks4, sL_asks5, s6_tickOf, s6_stateOf, s6_reasonOf, h, if_true, e, if_false, and_self]
/-- the last row of 'keeps' -/
theorem te_fin (hF : ta_F f) : (if (1 : Int32) = 0 then (0 : Int32) else (if (sL_asks3 b hh t1 t2 t3 (hh 4) 0) = (-101) then (if (sL_asks4 b hh t1 t2 t3 (-1) 0) = (-101) then (if (sL_asks5 b hh t1 t2 t3 (hh 4) 0) = (-101) then (if (s6_air b f) < 0 then (0 : Int32) else (if 100 < (s6_air b f) then (0 : Int32) else (if (if (s6_toPilot b f ep eq st) = 0 then (1 : Int32) else (0 : Int32)) = (s6_isOpen b f 0) then (1 : Int32) else (0 : Int32)))) else (0 : Int32)) else (0 : Int32)) else (0 : Int32))) = 1 := by
  have e0 : (0 : Int32).toInt = 0 := by decide
  have e1 : (100 : Int32).toInt = 100 := by decide
  have a1 : ¬ s6_air b f < 0 := by
    show ¬ f 6 < 0
    rw [Int32.lt_iff_toInt_lt]
    have := hF.2.2.2.1
    omega
  have a2 : ¬ 100 < s6_air b f := by
    show ¬ 100 < f 6
    rw [Int32.lt_iff_toInt_lt]
    have := hF.2.2.2.1
    omega
  rw [if_neg ta_n10, if_pos (te_a3 te_hk).1, if_pos (te_a3 te_hm).2.1, if_pos (te_a3 te_hk).2.2, if_neg a1, if_neg a2, if_pos te_po]
theorem te_kL (hF : ta_F f) {n : Nat} {c : Int32} {P Q R : Nat → Int32} (hK : ta_K n P Q R hh t1 t2 t3) (hL : ta_L n P Q R c f) (hn : n < 1000000) : ∀ (n9 j : Nat), 1 ≤ j → j + n9 = 10 → 2 ≤ n9 → sL_keeps_L b st f ep eq hh t1 t2 t3 n9 (hh 4) 1 (nI j) = 1 := by
  intro n9
  induction n9 with
  | zero => intro j _ _ h; omega
  | succ n9 ih =>
    intro j h1 h2 h3
    simp only [sL_keeps_L]
    by_cases c1 : hh 4 ≤ nI j
    · rw [if_pos c1]
      exact te_fin hF
    · rw [if_neg c1]
      by_cases c2 : j = 8
      · rw [c2, if_pos (show (8 : Int32) ≤ nI 8 by decide)]
        exact te_fin hF
      · rw [if_neg (show ¬ (8 : Int32) ≤ nI j from nI_ge (b := 8) (by omega) (by decide)), if_neg ta_n10]
        have hjn : j < n := by
          rw [hK.2.1] at c1
          rcases Nat.lt_or_ge j n with q | q
          · exact q
          · exact absurd (nI_le (by split <;> omega) (by omega)) c1
        obtain ⟨i, rfl⟩ : ∃ i, j = i + 1 := ⟨j - 1, by omega⟩
        obtain ⟨r1, r2, r3⟩ := ta_read hK hn hjn (by omega)
        obtain ⟨s1, s2, -⟩ := ta_read hK hn (show i < n by omega) (by omega)
        have ei : n - 1 - i = (n - 1 - (i + 1)) + 1 := by omega
        rw [ei] at s1 s2
        obtain ⟨l1, l2⟩ := hL.1 (n - 1 - (i + 1)) (by omega)
        have l3 := (hL.2.1 (n - 1 - (i + 1)) (by omega)).2
        simp only [tc_k1, tc_k2, tc_k3, nI_pred, r1, r2, r3, s1, s2]
        have m1 : ¬ P (n - 1 - (i + 1) + 1) < P (n - 1 - (i + 1)) := by
          rw [Int32.lt_iff_toInt_lt]
          rw [Int32.le_iff_toInt_le] at l1
          omega
        have m3 : (if R (n - 1 - (i + 1)) ≤ 0 then (0 : Int32) else 1) = (if Q (n - 1 - (i + 1)) = 6 then (1 : Int32) else 0) := by
          by_cases q : Q (n - 1 - (i + 1)) = 6
          · have q1 := l3.mpr q
            have q2 : ¬ R (n - 1 - (i + 1)) ≤ 0 := by
              rw [Int32.le_iff_toInt_le]
              rw [Int32.lt_iff_toInt_lt] at q1
              omega
            rw [if_pos q, if_neg q2]
          · have q2 : R (n - 1 - (i + 1)) ≤ 0 := by
              rw [Int32.le_iff_toInt_le]
              have q1 : ¬ 0 < R (n - 1 - (i + 1)) := fun z => q (l3.mp z)
              have := cw_le2 q1
              omega
            rw [if_neg q, if_pos q2]
        rw [if_neg m1, if_neg l2, if_pos m3, nI_1]
        exact ih (i + 1 + 1) (by omega) (by omega) (by omega)
theorem te_keeps {T : Nat} (h : ta_J T b st f ep eq hh t1 t2 t3) (hT : T < 1000000) : sL_keeps b st f ep eq hh t1 t2 t3 = 1 := by
  obtain ⟨-, -, hF, hS, n, t, P, Q, R, hnT, htT, hb, hK, hL⟩ := h
  have hF0 := hF
  obtain ⟨f3, f46, f40, f6, f7, f7z, f8, f9⟩ := hF0
  obtain ⟨k3, k4, k5, kr⟩ := id hK
  have e0 : (0 : Int32).toInt = 0 := by decide
  have q0 : s6_isOpen b f 0 = (if s6_state b f = 2 then (1 : Int32) else (if s6_state b f = 3 then (1 : Int32) else (0 : Int32))) := rfl
  have q1 : s6_isOpen b f 1 = (if s6_state b f = 3 then (1 : Int32) else (if s6_state b f = 4 then (1 : Int32) else (0 : Int32))) := rfl
  have g46 := ta_46 hF
  have c1 : (if s6_state b f = 6 then (1 : Int32) else (0 : Int32)) = (if s6_reason b f ≤ 0 then (0 : Int32) else (1 : Int32)) := by
    show (if f 3 = 6 then (1 : Int32) else 0) = (if f 4 ≤ 0 then (0 : Int32) else 1)
    by_cases c : f 3 = 6
    · have g := g46.mpr c
      have g2 : ¬ f 4 ≤ 0 := by
        rw [Int32.le_iff_toInt_le]
        rw [Int32.lt_iff_toInt_lt] at g
        omega
      rw [if_pos c, if_neg g2]
    · rw [if_neg c, f40 c, if_pos (by decide)]
  have c2 : ¬ 9 ≤ s6_reason b f := by
    show ¬ 9 ≤ f 4
    rw [Int32.le_iff_toInt_le]
    have e9 : (9 : Int32).toInt = 9 := by decide
    by_cases c : f 3 = 6
    · have := f46 c
      omega
    · rw [f40 c]
      omega
  have c3 : ¬ s6_longestUnlit b f < s6_unlit b f := f9
  have c4 : s6_records b hh = (if 100 ≤ s6_changes b hh then (100 : Int32) else s6_changes b hh) := by
    show hh 4 = (if 100 ≤ hh 3 then (100 : Int32) else hh 3)
    rw [k4, k3]
    by_cases c : 100 ≤ n
    · rw [if_pos c, if_pos (show (100 : Int32) ≤ nI n from nI_le (a := 100) c (by omega))]
      rfl
    · rw [if_neg c, if_neg (show ¬ (100 : Int32) ≤ nI n from nI_ge (b := 100) (by omega) (by decide))]
  have cz : n = 0 → s6_records b hh = 0 ∧ s6_state b f = 0 := by
    intro z
    refine ⟨?_, hL.2.2.2 z⟩
    show hh 4 = 0
    rw [k4, z]
    rfl
  have cn : ¬ n = 0 → ¬ s6_records b hh = 0 ∧ 0 < s6_records b hh ∧ s6_stateOfN b hh t1 t2 t3 0 = s6_state b f ∧ s6_reasonOfN b hh t1 t2 t3 0 = s6_reason b f ∧ ¬ (s6_ticks b - s6_tickOfN b hh t1 t2 t3 0) < s6_time b f := by
    intro z
    have p1 : 0 < (if 100 ≤ n then 100 else n) := by split <;> omega
    have p2 : (if 100 ≤ n then 100 else n) < 2 ^ 31 := by split <;> omega
    obtain ⟨r1, r2, r3⟩ := ta_read hK (by omega) (show 0 < n by omega) (by omega)
    obtain ⟨m1, m2, m3⟩ := hL.2.2.1 (n - 1) (by omega)
    refine ⟨?_, ?_, ?_, ?_, ?_⟩
    · show ¬ hh 4 = 0
      rw [k4]
      exact nI_ne0 p1 p2
    · show 0 < hh 4
      rw [k4]
      exact nI_lt (a := 0) p1 p2
    · exact r2.trans m1
    · exact r3.trans m2
    · have e : s6_tickOfN b hh t1 t2 t3 0 = P (n - 1) := r1
      rw [e]
      show ¬ (b 6 - P (n - 1)) < f 5
      rw [m3]
      exact Int32.lt_irrefl
  have hend : sL_keeps_L b st f ep eq hh t1 t2 t3 9 (s6_records b hh) 1 1 = 1 := te_kL hF hK hL (by omega) 9 1 (by omega) (by omega) (by omega)
  simp only [sL_keeps]
  rw [if_pos q0, if_pos q1]
  by_cases m : s6_isOpen b f 1 = 0
  · have fz : s6_fuel b f = 0 := by
      have m1 : s2_isMainOpen f = 0 := m
      have m3 : ¬ f 3 = 3 := by
        intro q
        simp only [s2_isMainOpen, if_pos q] at m1
        exact absurd m1 (by decide)
      have m4 : ¬ f 3 = 4 := by
        intro q
        simp only [s2_isMainOpen, if_neg m3, if_pos q] at m1
        exact absurd m1 (by decide)
      exact f7z m3 m4
    rw [if_pos m, if_pos fz]
    by_cases o : s6_state b f = 1
    · rw [if_pos o, if_pos c1, if_neg c2, if_neg c3, if_pos c4]
      by_cases z : n = 0
      · obtain ⟨z1, z2⟩ := cz z
        rw [z2] at o
        exact absurd o (by decide)
      · obtain ⟨z1, z2, z3, z4, z5⟩ := cn z
        rw [if_neg z1, if_pos z3, if_pos z4, if_neg z5, if_pos z2]
        exact hend
    · have pz : s6_purged b f = 0 := f8 o
      rw [if_neg o, if_pos pz, if_pos c1, if_neg c2, if_neg c3, if_pos c4]
      by_cases z : n = 0
      · obtain ⟨z1, z2⟩ := cz z
        have z3 : ¬ 0 < s6_records b hh := by rw [z1]; decide
        rw [if_pos z1, if_neg z3, if_pos z2]
        exact hend
      · obtain ⟨z1, z2, z3, z4, z5⟩ := cn z
        rw [if_neg z1, if_pos z3, if_pos z4, if_neg z5, if_pos z2]
        exact hend
  · rw [if_neg m]
    by_cases o : s6_state b f = 1
    · rw [if_pos o, if_pos c1, if_neg c2, if_neg c3, if_pos c4]
      by_cases z : n = 0
      · obtain ⟨z1, z2⟩ := cz z
        rw [z2] at o
        exact absurd o (by decide)
      · obtain ⟨z1, z2, z3, z4, z5⟩ := cn z
        rw [if_neg z1, if_pos z3, if_pos z4, if_neg z5, if_pos z2]
        exact hend
    · have pz : s6_purged b f = 0 := f8 o
      rw [if_neg o, if_pos pz, if_pos c1, if_neg c2, if_neg c3, if_pos c4]
      by_cases z : n = 0
      · obtain ⟨z1, z2⟩ := cz z
        have z3 : ¬ 0 < s6_records b hh := by rw [z1]; decide
        rw [if_pos z1, if_neg z3, if_pos z2]
        exact hend
      · obtain ⟨z1, z2, z3, z4, z5⟩ := cn z
        rw [if_neg z1, if_pos z3, if_pos z4, if_neg z5, if_pos z2]
        exact hend
end TK
