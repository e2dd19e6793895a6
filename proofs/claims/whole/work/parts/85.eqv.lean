/-- what lies behind place 8 of the class's furnace is kept -/
def pq_J (f : Nat → Int32) (y : Int32 × (Nat → Int32)) : Prop := ∀ k, 9 ≤ k → y.2 k = f k
theorem pq_Jb0 (f : Nat → Int32) (a b : Int32) (k : Nat) (hk : 9 ≤ k) : (s2_begin f a b).2 k = f k := by
  have h3 : ¬ k = 3 := by omega
  have h4 : ¬ k = 4 := by omega
  have h5 : ¬ k = 5 := by omega
  have h7 : ¬ k = 7 := by omega
  have h8 : ¬ k = 8 := by omega
  simp only [s2_begin]
  (repeat' split) <;> simp [upd, h3, h4, h5, h7, h8]
section PX
variable {f ep eq st mm : Nat → Int32} {a v w z y : Int32}
theorem pq_Jn : pq_J f (v, f) := fun _ _ => rfl
theorem pq_J8 : pq_J f (v, upd f 8 w) := fun k hk => cw_updn _ _ (by omega)
theorem pq_Jb : pq_J f (v, (s2_begin f z y).2) := fun k hk => pq_Jb0 _ _ _ k hk
theorem pq_Jb8 : pq_J f (v, (s2_begin (upd f 8 w) z y).2) := fun k hk => (pq_Jb0 _ _ _ k hk).trans (cw_updn _ _ (by omega))
theorem pq_jOff : pq_J f (s2_sequenceOff f ep eq st a) := by
  simp only [s2_sequenceOff, s2_lockOut, pq_bg1, pq_lit.1, if_false]
  repeat' (first | exact pq_Jn | exact pq_Jb | split)
theorem pq_jPu : pq_J f (s2_sequencePurge f ep eq st a) := by
  simp only [s2_sequencePurge, s2_lockOut, pq_bg1, pq_lit.1, if_false]
  generalize (if s6_isOn a 2 = 0 then (0 : Int32) else if f 6 < 70 then 0 else f 8 + f 6) = v
  repeat' (first | exact pq_Jn | exact pq_J8 | exact pq_Jb | exact pq_Jb8 | split)
theorem pq_jLP : pq_J f (s2_lightPilot f ep eq st) := by
  simp only [s2_lightPilot, s2_lockOut, pq_bg1, pq_lit.1, if_false]
  repeat' (first | exact pq_Jn | exact pq_Jb | split)
theorem pq_jLM : pq_J f (s2_lightMain f ep eq st) := by
  simp only [s2_lightMain, s2_lockOut, pq_bg1, pq_lit.1, if_false]
  repeat' (first | exact pq_Jn | exact pq_Jb | split)
theorem pq_jLi : pq_J f (s2_sequenceLighting f ep eq st a) := by
  by_cases c : f 3 = 2
  · simp only [s2_sequenceLighting, s2_lockOut, pq_bg1, if_pos c]
    repeat' (first | exact pq_jLP (ep := ep) (eq := eq) (st := st) | exact pq_Jb | split)
  · simp only [s2_sequenceLighting, s2_lockOut, pq_bg1, if_neg c]
    repeat' (first | exact pq_jLM (ep := ep) (eq := eq) (st := st) | exact pq_Jb | split)
theorem pq_jRu : pq_J f (s2_sequenceRun f ep eq st a) := by
  simp only [s2_sequenceRun, s2_lockOut, pq_bg1, pq_lit.1, if_false]
  repeat' (first | exact pq_Jn | exact pq_Jb | split)
theorem pq_jAf : pq_J f (s2_sequenceAfterPurge f ep eq st) := by
  simp only [s2_sequenceAfterPurge, s2_lockOut, pq_bg1]
  repeat' (first | exact pq_Jn | exact pq_Jb | split)
theorem pq_jse : pq_J f (s2_sequence f ep eq st a) := by
  simp only [s2_sequence]
  by_cases c0 : f 3 = 0
  · rw [if_pos c0]; exact pq_jOff
  rw [if_neg c0]
  by_cases c1 : f 3 = 1
  · rw [if_pos c1]; exact pq_jPu
  rw [if_neg c1]
  by_cases c2 : f 3 = 2
  · rw [if_pos c2]; exact pq_jLi
  rw [if_neg c2]
  by_cases c3 : f 3 = 3
  · rw [if_pos c3]; exact pq_jLi
  rw [if_neg c3]
  by_cases c4 : f 3 = 4
  · rw [if_pos c4]; exact pq_jRu
  rw [if_neg c4]
  by_cases c5 : f 3 = 5
  · rw [if_pos c5]; exact pq_jAf
  rw [if_neg c5]
  exact pq_Jn
theorem pq_jmp (k : Nat) (h6 : ¬ k = 6) (h7 : ¬ k = 7) : s2_movePositions f ep eq st k = f k := by
  simp only [s2_movePositions]
  rw [cw_updn _ _ h7, cw_updn _ _ h6]
theorem pq_tkE (f ep eq st : Nat → Int32) (a : Int32) : ∃ g ep1 eq1 : Nat → Int32, g = upd (s2_movePositions f ep1 eq1 st) 5 ((s2_movePositions f ep1 eq1 st) 5 + 1) ∧ (s2_tick f ep eq st a).2.2.1 = ep1 ∧ (s2_tick f ep eq st a).2.2.2 = eq1 ∧ (s2_tick f ep eq st a).1 = (s2_sequence g ep1 eq1 st a).1 ∧ (s2_tick f ep eq st a).2.1 = s2_countUnlit (s2_sequence g ep1 eq1 st a).2 ep1 eq1 st (if s2_isPilotOpen f = 0 then (if s2_isMainOpen f = 0 then 0 else 1) else 1) :=
  ⟨_, s2_look f st ep (s6_isOn a 8), s2_look f st eq (s6_isOn a 16), rfl, rfl, rfl, rfl, rfl⟩
theorem pq_tickG (hF : pq_F f mm) (hE : pq_E ep eq mm) (hS : pq_S st mm) (hB : pq_B mm) (ha : ∃ j : Nat, j < 64 ∧ a = nI j) :
    ((s2_tick f ep eq st a).1 = 0 ∧ s7_plays mm a 12 = mm 12) ∨ ((s2_tick f ep eq st a).1 = 1 ∧ ¬ s7_plays mm a 12 = mm 12) := by
  have hT := pq_tick hF hE hS hB ha
  obtain ⟨g, ep1, eq1, eg, e1, e2, e3, e4⟩ := pq_tkE f ep eq st a
  have hg : pq_G g (s2_sequence g ep1 eq1 st a) := pq_flag
  have c3 : (s2_tick f ep eq st a).2.1 3 = (s2_sequence g ep1 eq1 st a).2 3 := by
    rw [e4]
    simp only [s2_countUnlit]
    rw [cw_updn _ _ (by decide), cw_updn _ _ (by decide)]
  have g3 : g 3 = mm 12 := by rw [eg, cw_updn _ _ (by decide), pq_jmp 3 (by decide) (by decide), hF.1]
  have d3 : (s2_tick f ep eq st a).2.1 3 = s7_plays mm a 12 := hT.1.1
  rcases hg with ⟨q1, q2⟩ | ⟨q1, q2⟩
  · exact Or.inl ⟨e3.trans q1, d3.symm.trans (c3.trans (q2.trans g3))⟩
  · exact Or.inr ⟨e3.trans q1, fun q => q2 (c3.symm.trans (d3.trans (q.trans g3.symm)))⟩
theorem pq_open : ∀ s : Nat, s < 7 → (if (if nI s = 2 then (1 : Int32) else (if nI s = 3 then 1 else 0)) = 0 then (if (if nI s = 3 then (1 : Int32) else (if nI s = 4 then 1 else 0)) = 0 then (0 : Int32) else 1) else 1) = s7_in (nI s) 2 4 := by decide +kernel
theorem pq_mx {p q : Int32} : (if p < q then q else p) = (if q ≤ p then p else q) := by
  by_cases c : p < q
  · have d : ¬ q ≤ p := by
      rw [Int32.le_iff_toInt_le]
      rw [Int32.lt_iff_toInt_lt] at c
      omega
    rw [if_pos c, if_neg d]
  · have d : q ≤ p := by
      rw [Int32.le_iff_toInt_le]
      exact cw_le2 c
    rw [if_neg c, if_pos d]
theorem pq_tU (hF : pq_F f mm) (hE : pq_E ep eq mm) (hS : pq_S st mm) (hB : pq_B mm) (ha : ∃ j : Nat, j < 64 ∧ a = nI j) (h9 : f 9 = mm 22) (h10 : f 10 = mm 23) (hs : ∃ s : Nat, s < 7 ∧ mm 12 = nI s) :
    (s2_tick f ep eq st a).2.1 9 = (if s7_in (mm 12) 2 4 = 0 then 0 else (if s7_plays mm a 18 = 0 then mm 22 + 1 else 0)) ∧ (s2_tick f ep eq st a).2.1 10 = (if (if s7_in (mm 12) 2 4 = 0 then 0 else (if s7_plays mm a 18 = 0 then mm 22 + 1 else 0)) ≤ mm 23 then mm 23 else (if s7_in (mm 12) 2 4 = 0 then 0 else (if s7_plays mm a 18 = 0 then mm 22 + 1 else 0))) := by
  have hT := pq_tick hF hE hS hB ha
  obtain ⟨g, ep1, eq1, eg, e1, e2, e3, e4⟩ := pq_tkE f ep eq st a
  have hE1 := hT.2.1
  rw [e1, e2] at hE1
  have k9 : (s2_sequence g ep1 eq1 st a).2 9 = mm 22 := by rw [pq_jse 9 (by decide), eg, cw_updn _ _ (by decide), pq_jmp 9 (by decide) (by decide), h9]
  have k10 : (s2_sequence g ep1 eq1 st a).2 10 = mm 23 := by rw [pq_jse 10 (by decide), eg, cw_updn _ _ (by decide), pq_jmp 10 (by decide) (by decide), h10]
  have hw : (if s2_isPilotOpen f = 0 then (if s2_isMainOpen f = 0 then (0 : Int32) else 1) else 1) = s7_in (mm 12) 2 4 := by
    obtain ⟨s, hs1, hs2⟩ := hs
    have f3 : f 3 = nI s := hF.1.trans hs2
    simp only [s2_isPilotOpen, s2_isMainOpen, f3, hs2]
    exact pq_open s hs1
  have hfl : s2_hasFlame (s2_sequence g ep1 eq1 st a).2 ep1 eq1 st = 0 ↔ s7_plays mm a 18 = 0 := by
    obtain ⟨hp, hq, h18, -⟩ := hE1
    rw [h18]
    simp only [s2_hasFlame]
    rcases hp with hp | hp <;> rcases hq with hq | hq <;> rw [hp, hq] <;> decide
  have hW : (if s7_in (mm 12) 2 4 = 0 then (0 : Int32) else (if s2_hasFlame (s2_sequence g ep1 eq1 st a).2 ep1 eq1 st = 0 then (s2_sequence g ep1 eq1 st a).2 9 + 1 else 0)) = (if s7_in (mm 12) 2 4 = 0 then 0 else (if s7_plays mm a 18 = 0 then mm 22 + 1 else 0)) := by
    rw [k9]
    by_cases q : s7_plays mm a 18 = 0
    · rw [if_pos q, if_pos (hfl.mpr q)]
    · rw [if_neg q, if_neg (fun q1 => q (hfl.mp q1))]
  rw [e4, hw]
  simp only [s2_countUnlit]
  rw [hW]
  refine ⟨?_, ?_⟩
  · rw [cw_updn _ _ (by decide), cw_upd0]
  · rw [cw_upd0, k10]
    exact pq_mx
end PX
/-- how large the model's numbers may be -/
def pq_N (T : Nat) (mm : Nat → Int32) : Prop := (0 ≤ (mm 12).toInt ∧ (mm 12).toInt ≤ 6) ∧ (0 ≤ (mm 13).toInt ∧ (mm 13).toInt ≤ 8) ∧ (0 ≤ (mm 14).toInt ∧ (mm 14).toInt ≤ T) ∧ (0 ≤ (mm 17).toInt ∧ (mm 17).toInt ≤ 1999) ∧ (0 ≤ (mm 19).toInt ∧ (mm 19).toInt ≤ 4) ∧ (0 ≤ (mm 20).toInt ∧ (mm 20).toInt ≤ 4) ∧ (mm 6).toInt ≤ 5 ∧ (mm 7).toInt ≤ 5 ∧ (1 ≤ (mm 9).toInt ∧ (mm 9).toInt ≤ 500)
def pq_M (T : Nat) (m : Nat → Int32) : Prop := (0 ≤ (m 12).toInt ∧ (m 12).toInt ≤ 6) ∧ (0 ≤ (m 13).toInt ∧ (m 13).toInt ≤ 8) ∧ (0 ≤ (m 14).toInt ∧ (m 14).toInt ≤ T) ∧ (0 ≤ (m 17).toInt ∧ (m 17).toInt ≤ 1999)
theorem pq_nI {v : Int32} {B : Nat} (h0 : 0 ≤ v.toInt) (h1 : v.toInt ≤ B) : ∃ j : Nat, j ≤ B ∧ v = nI j := by
  have hx := Int32.toInt_lt v
  refine ⟨v.toInt.toNat, by omega, Int32.toInt_inj.mp ?_⟩
  rw [nI_toInt (by omega)]
  omega
theorem pq_z4 : 0 ≤ (0 : Int32).toInt ∧ (0 : Int32).toInt ≤ 4 := by decide
theorem pq_row {n : Nat → Int32} {i c a : Int32} (h6 : (n 6).toInt ≤ 5) (h7 : (n 7).toInt ≤ 5) (hc : 0 ≤ c.toInt ∧ c.toInt ≤ 4) : 0 ≤ (s7_looks n a i c).1.toInt ∧ (s7_looks n a i c).1.toInt ≤ 4 := by
  have h1 : (c + 1).toInt = c.toInt + 1 := cw_inc hc.1 (by omega)
  simp only [s7_looks]
  by_cases d : s7_has a (3 + i) = s7_has (n 18) i
  · rw [if_pos d]; exact pq_z4
  · rw [if_neg d]
    by_cases g : (if s7_has a (3 + i) = 0 then n 7 else n 6) ≤ c + 1
    · rw [if_pos g]; exact pq_z4
    · rw [if_neg g]
      have g3 := cw_lt1 g
      have g4 : (if s7_has a (3 + i) = 0 then n 7 else n 6).toInt ≤ 5 := by split <;> assumption
      exact ⟨by show 0 ≤ (c + 1).toInt; omega, by show (c + 1).toInt ≤ 4; omega⟩
section PYP
variable {P : (Nat → Int32) → Prop} {m : Nat → Int32} {a b : Int32}
theorem pq_Plk (hb : ∀ (n : Nat → Int32) (u v : Int32), (0 ≤ u.toInt ∧ u.toInt ≤ 6) → (0 ≤ v.toInt ∧ v.toInt ≤ 8) → P (s7_begins n u v)) (h : P m) : P (s7_lacks m a).2 := by
  simp only [s7_lacks]
  by_cases c : s7_has a 1 = 0
  · rw [if_pos c]; exact hb _ _ _ (by decide) (by decide)
  · rw [if_neg c]
    by_cases d : s7_has a 2 = 0
    · rw [if_pos d]; exact hb _ _ _ (by decide) (by decide)
    · rw [if_neg d]; exact h
theorem pq_Pli (hb : ∀ (n : Nat → Int32) (u v : Int32), (0 ≤ u.toInt ∧ u.toInt ≤ 6) → (0 ≤ v.toInt ∧ v.toInt ≤ 8) → P (s7_begins n u v)) (h : P m) : P (s7_lights m a b) := by
  have h1 := pq_Plk (a := a) hb h
  simp only [s7_lights]
  revert h1
  generalize (s7_lacks m a).2 = v3
  generalize (s7_lacks m a).1 = r2
  intro h1
  repeat' (first | split | exact hb _ _ _ (by decide) (by decide) | exact h1)
theorem pq_Pru (hb : ∀ (n : Nat → Int32) (u v : Int32), (0 ≤ u.toInt ∧ u.toInt ≤ 6) → (0 ≤ v.toInt ∧ v.toInt ≤ 8) → P (s7_begins n u v)) (h : P m) : P (s7_runs m a b) := by
  have h1 := pq_Plk (a := a) hb h
  simp only [s7_runs]
  revert h1
  generalize (s7_lacks m a).2 = v3
  generalize (s7_lacks m a).1 = r2
  intro h1
  repeat' (first | split | exact hb _ _ _ (by decide) (by decide) | exact h1)
theorem pq_Pde (hb : ∀ (n : Nat → Int32) (u v : Int32), (0 ≤ u.toInt ∧ u.toInt ≤ 6) → (0 ≤ v.toInt ∧ v.toInt ≤ 8) → P (s7_begins n u v)) (h : P m) (hp : P (s7_purges m a (s7_has a 0))) : P (s7_decides m a) := by
  have h2 := pq_Pli (a := a) (b := s7_has a 0) hb h
  have h3 := pq_Pru (a := a) (b := s7_has a 0) hb h
  simp only [s7_decides]
  revert hp h2 h3
  generalize s7_purges m a (s7_has a 0) = x1
  generalize s7_lights m a (s7_has a 0) = x2
  generalize s7_runs m a (s7_has a 0) = x3
  intro hp h2 h3
  repeat' (first | split | exact hb _ _ _ (by decide) (by decide) | exact h | exact hp | exact h2 | exact h3)
end PYP
section PY
variable {m mm : Nat → Int32} {a b v : Int32} {T : Nat}
theorem pq_Mb (ha : 0 ≤ a.toInt ∧ a.toInt ≤ 6) (hb : 0 ≤ b.toInt ∧ b.toInt ≤ 8) : pq_M T (s7_begins m a b) := by
  have h0 : (0 : Int32).toInt = 0 := by decide
  have e12 : s7_begins m a b 12 = a := by simp [s7_begins, upd]
  have e13 : s7_begins m a b 13 = b := by simp [s7_begins, upd]
  have e14 : s7_begins m a b 14 = 0 := by simp [s7_begins, upd]
  have e17 : s7_begins m a b 17 = 0 := by simp [s7_begins, upd]
  unfold pq_M
  rw [e12, e13, e14, e17, h0]
  exact ⟨ha, hb, by omega, by omega⟩
theorem pq_M17 (h : pq_M T m) (hv : 0 ≤ v.toInt ∧ v.toInt ≤ 1999) : pq_M T (upd m 17 v) := by
  obtain ⟨h12, h13, h14, h17⟩ := h
  unfold pq_M
  rw [cw_updn _ _ (by decide), cw_updn _ _ (by decide), cw_updn _ _ (by decide), cw_upd0]
  exact ⟨h12, h13, h14, hv⟩
theorem pq_4v (h : 1 ≤ (m 9).toInt ∧ (m 9).toInt ≤ 500) : (4 * m 9).toInt = 4 * (m 9).toInt := by
  have h4 : (4 : Int32).toInt = 4 := by decide
  rw [Int32.toInt_mul, h4, Int.bmod_def]
  split <;> omega
theorem pq_Mpu (h : pq_M T m) (h9 : 1 ≤ (m 9).toInt ∧ (m 9).toInt ≤ 500) (h15 : 0 ≤ (m 15).toInt ∧ (m 15).toInt ≤ 100) : pq_M T (s7_purges m a b) := by
  have h0 : (0 : Int32).toInt = 0 := by decide
  have h17 := h.2.2.2
  have hv : 0 ≤ (if s7_has a 1 = 0 then (0 : Int32) else (if m 15 < 70 then 0 else m 17 + m 15)).toInt := by
    by_cases c : s7_has a 1 = 0
    · rw [if_pos c]; decide
    · rw [if_neg c]
      by_cases d : m 15 < 70
      · rw [if_pos d]; decide
      · rw [if_neg d, pq_add (by omega) (by omega)]
        omega
  simp only [s7_purges]
  revert hv
  generalize (if s7_has a 1 = 0 then (0 : Int32) else (if m 15 < 70 then 0 else m 17 + m 15)) = v
  intro hv
  by_cases c1 : b = 0
  · rw [if_pos c1]; exact pq_Mb (by decide) (by decide)
  · rw [if_neg c1]
    by_cases c2 : m 18 ≤ 0
    · rw [if_pos c2]
      by_cases c3 : v < 4 * m 9
      · rw [if_pos c3]
        rw [Int32.lt_iff_toInt_lt, pq_4v h9] at c3
        by_cases c4 : m 14 < m 2
        · rw [if_pos c4]; exact pq_M17 h ⟨hv, by omega⟩
        · rw [if_neg c4]; exact pq_Mb (by decide) (by decide)
      · rw [if_neg c3]; exact pq_Mb (by decide) (by decide)
    · rw [if_neg c2]; exact pq_Mb (by decide) (by decide)
theorem pq_Mde (h : pq_M T m) (h9 : 1 ≤ (m 9).toInt ∧ (m 9).toInt ≤ 500) (h15 : 0 ≤ (m 15).toInt ∧ (m 15).toInt ≤ 100) : pq_M T (s7_decides m a) :=
  pq_Pde (P := pq_M T) (fun _ _ _ hu hv => pq_Mb hu hv) h (pq_Mpu h h9 h15)
theorem pq_Nt (hN : pq_N T mm) (hB : pq_B mm) (hT : T < 1000000) : pq_N (T + 1) (s7_plays mm a) := by
  obtain ⟨m1, m2, e1, e2, e3⟩ := pq_playE mm a
  obtain ⟨b12, b13, b14, b17, b19, b20, b6, b7, b9⟩ := hN
  have k1 : ∀ k, k ≠ 18 → k ≠ 19 → m1 k = mm k := fun k c d => by rw [e1, cw_updn _ _ d, wq_looksF _ _ _ _ _ c]
  have k2 : ∀ k, k ≠ 18 → k ≠ 20 → m2 k = m1 k := fun k c d => by rw [e2, cw_updn _ _ d, wq_looksF _ _ _ _ _ c]
  have k3 : ∀ k, k < 18 → m2 k = mm k := fun k hk => (k2 k (by omega) (by omega)).trans (k1 k (by omega) (by omega))
  have r19 : 0 ≤ (m1 19).toInt ∧ (m1 19).toInt ≤ 4 := by
    rw [e1, cw_upd0]
    exact pq_row b6 b7 b19
  have r20 : 0 ≤ (m2 20).toInt ∧ (m2 20).toInt ≤ 4 := by
    have c6 : (m1 6).toInt ≤ 5 := by rw [k1 6 (by decide) (by decide)]; exact b6
    have c7 : (m1 7).toInt ≤ 5 := by rw [k1 7 (by decide) (by decide)]; exact b7
    have c20 : 0 ≤ (m1 20).toInt ∧ (m1 20).toInt ≤ 4 := by rw [k1 20 (by decide) (by decide)]; exact b20
    rw [e2, cw_upd0]
    exact pq_row c6 c7 c20
  have hB2 : pq_B m2 := pq_Bc hB (fun k hk => k3 k (by omega))
  have hB3 := pq_goesB hB2
  have k4 : ∀ k, k ≠ 14 → k ≠ 15 → k ≠ 16 → upd (s7_goes m2) 14 (s7_goes m2 14 + 1) k = m2 k := fun k c d g => by rw [cw_updn _ _ c, wq_goesF _ _ d g]
  have c14 : upd (s7_goes m2) 14 (s7_goes m2 14 + 1) 14 = mm 14 + 1 := by rw [cw_upd0, wq_goesF _ _ (by decide) (by decide), k3 14 (by decide)]
  have c15 : upd (s7_goes m2) 14 (s7_goes m2 14 + 1) 15 = s7_goes m2 15 := cw_updn _ _ (by decide)
  have c12 : upd (s7_goes m2) 14 (s7_goes m2 14 + 1) 12 = mm 12 := (k4 12 (by decide) (by decide) (by decide)).trans (k3 12 (by decide))
  have c13 : upd (s7_goes m2) 14 (s7_goes m2 14 + 1) 13 = mm 13 := (k4 13 (by decide) (by decide) (by decide)).trans (k3 13 (by decide))
  have c17 : upd (s7_goes m2) 14 (s7_goes m2 14 + 1) 17 = mm 17 := (k4 17 (by decide) (by decide) (by decide)).trans (k3 17 (by decide))
  have c9 : upd (s7_goes m2) 14 (s7_goes m2 14 + 1) 9 = mm 9 := (k4 9 (by decide) (by decide) (by decide)).trans (k3 9 (by decide))
  have i14 : (mm 14 + 1).toInt = (mm 14).toInt + 1 := cw_inc b14.1 (by omega)
  have hM : pq_M (T + 1) (upd (s7_goes m2) 14 (s7_goes m2 14 + 1)) := by
    unfold pq_M
    rw [c12, c13, c14, c17, i14]
    exact ⟨b12, b13, by omega, b17⟩
  have hD := pq_Mde (a := a) hM (by rw [c9]; exact b9) (by rw [c15]; exact hB3.1)
  have hK := pq_Kde (m := upd (s7_goes m2) 14 (s7_goes m2 14 + 1)) a
  rw [← e3] at hD hK
  have q : ∀ k, k < 12 ∨ 18 ≤ k → s7_plays mm a k = m2 k := fun k hk => (hK.1 k (by omega)).trans (k4 k (by omega) (by omega) (by omega))
  refine ⟨hD.1, hD.2.1, hD.2.2.1, hD.2.2.2, ?_, ?_, ?_, ?_, ?_⟩
  · rw [q 19 (by decide), k2 19 (by decide) (by decide)]; exact r19
  · rw [q 20 (by decide)]; exact r20
  · rw [q 6 (by decide), k3 6 (by decide)]; exact b6
  · rw [q 7 (by decide), k3 7 (by decide)]; exact b7
  · rw [q 9 (by decide), k3 9 (by decide)]; exact b9
end PY
