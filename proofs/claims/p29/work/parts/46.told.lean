/-! PURE: what is told both furnaces -/
section TT
variable {b f ep eq st hh t1 t2 t3 : Nat → Int32}
theorem tf_upup (g : Nat → Int32) (k : Nat) (x y : Int32) : upd (upd g k x) k y = upd g k y := by
  funext i
  by_cases c : i = k
  · rw [c, cw_upd0, cw_upd0]
  · rw [cw_updn _ _ c, cw_updn _ _ c, cw_updn _ _ c]
theorem tf_ups (g : Nat → Int32) (k : Nat) : upd g k (g k) = g := by
  funext i
  by_cases c : i = k
  · rw [c, cw_upd0]
  · rw [cw_updn _ _ c]
/-! signals -/
theorem tf_s8o {k y : Int32} (h : k < 0 ∨ ¬ k < 6) : sL_asks8 b k y = ((-101), b) := by
  have e : ¬ (1 : Int32) = 0 := by decide
  by_cases c : k < 0
  · simp only [sL_asks8, s6_signal, if_pos c, e, if_false]
  · have c6 : ¬ k < 6 := h.resolve_left c
    simp only [sL_asks8, s6_signal, if_neg c, if_neg c6, e, if_false]
def tf_set (v k y : Int32) : Int32 := if y = 0 then v &&& (td_bit k ^^^ (-1)) else v ||| td_bit k
theorem tf_s8i {k y : Int32} (h0 : ¬ k < 0) (h6 : k < 6) (hy : y = 0 ∨ y = 1) : sL_asks8 b k y = (s6_isOn (b 5) (td_bit k), upd b 5 (tf_set (b 5) k y)) := by
  have hb : ∀ x : Int32, x = 0 ∨ x = 1 → (if x = 0 then (0 : Int32) else 1) = x := by
    intro x hx
    rcases hx with rfl | rfl <;> decide
  have hc : (if y = 1 then (1 : Int32) else 0) = y := by rcases hy with rfl | rfl <;> decide
  simp only [sL_asks8, s6_signal, if_neg h0, if_pos h6, if_true, hc]
  exact congrArg (fun z => (z, upd b 5 (tf_set (b 5) k y))) (hb _ (z6_isOn _ _))
theorem tf_k {k : Int32} (h0 : ¬ k < 0) (h6 : k < 6) : ∃ j : Nat, j < 6 ∧ k = nI j := by
  obtain ⟨j, hj, rfl⟩ := nI_of h0
  exact ⟨j, (nI_ltI (b := 6) hj (by decide)).mp h6, rfl⟩
theorem tf_bits : ∀ j : Nat, j < 6 → ¬ td_bit (nI j) = 0 ∧ (td_bit (nI j) ^^^ (-1)) &&& td_bit (nI j) = 0 := by decide +kernel
theorem tf_on {v k y : Int32} (h0 : ¬ k < 0) (h6 : k < 6) (hy : y = 0 ∨ y = 1) : s6_isOn (tf_set v k y) (td_bit k) = y := by
  obtain ⟨j, hj, rfl⟩ := tf_k h0 h6
  obtain ⟨b1, b2⟩ := tf_bits j hj
  unfold tf_set
  rcases hy with rfl | rfl
  · rw [if_pos rfl]
    have e : (v &&& (td_bit (nI j) ^^^ (-1))) &&& td_bit (nI j) = 0 := by rw [Int32.and_assoc, b2]; exact Int32.and_zero
    simp only [s6_isOn, if_pos e]
  · rw [if_neg ta_n10]
    have e : ¬ (v ||| td_bit (nI j)) &&& td_bit (nI j) = 0 := by
      rw [Int32.and_comm, td_and td_leM]
      exact b1
    simp only [s6_isOn, if_neg e]
theorem tf_set2 (v k y : Int32) : tf_set (tf_set v k y) k y = tf_set v k y := by
  unfold tf_set
  by_cases c : y = 0
  · rw [if_pos c, if_pos c, Int32.and_assoc, Int32.and_self]
  · rw [if_neg c, if_neg c, Int32.or_assoc, Int32.or_self]
theorem tf_b6 (x : Int32) : upd b 5 x 6 = b 6 := cw_updn _ _ (by decide)
/-! the rate -/
theorem tf_r0 {w y : Int32} (h : w < 20 ∨ ¬ w ≤ 100) : sL_asks0 b st w y = ((-102), st) := by
  have e : ¬ (1 : Int32) = 0 := by decide
  have o : s6_isOutside w 20 100 = 1 := by
    simp only [s6_isOutside]
    by_cases c : w < 20
    · rw [if_pos c]
    · rw [if_neg c, if_neg (h.resolve_left c)]
  simp only [sL_asks0, s6_setRate, o, e, if_false]
theorem tf_r1 {w y : Int32} (h0 : ¬ w < 20) (h1 : w ≤ 100) : sL_asks0 b st w y = (st 0, upd st 0 w) := by
  have o : s6_isOutside w 20 100 = 0 := by
    simp only [s6_isOutside]
    rw [if_neg h0, if_pos h1]
  simp only [sL_asks0, s6_setRate, o, if_true]
theorem tf_rS {w : Int32} (hS : ta_S st) (h0 : ¬ w < 20) (h1 : w ≤ 100) : ta_S (upd st 0 w) := by
  obtain ⟨-, s2, s3⟩ := hS
  have e1 : (20 : Int32).toInt = 20 := by decide
  have e2 : (100 : Int32).toInt = 100 := by decide
  have g0 := cw_le2 h0
  rw [Int32.le_iff_toInt_le] at h1
  refine ⟨?_, by rw [cw_updn _ _ (by decide)]; exact s2, by rw [cw_updn _ _ (by decide)]; exact s3⟩
  rw [cw_upd0]
  omega
/-! the settings: which is bad, by the law's own row -/
def tf_bad (w a c d e : Int32) : Int32 := (if w = 0 then (if a < 1 then (1 : Int32) else (if 200 < a then (1 : Int32) else (if c < 1 then (1 : Int32) else (if 30 < c then (1 : Int32) else (if d < 1 then (1 : Int32) else (if 30 < d then (1 : Int32) else (if e < 1 then (1 : Int32) else (if e ≤ 60 then (0 : Int32) else (1 : Int32))))))))) else (if w = 1 then (if a < 1 then (1 : Int32) else (if 5 < a then (1 : Int32) else (if c < 1 then (1 : Int32) else (if 5 < c then (1 : Int32) else (if d < 5 then (1 : Int32) else (if d ≤ 100 then (0 : Int32) else (1 : Int32))))))) else (if a < 1 then (1 : Int32) else (if 500 < a then (1 : Int32) else (if c < 1 then (1 : Int32) else (if 50 < c then (1 : Int32) else (if d < 1 then (1 : Int32) else (if d ≤ 50 then (0 : Int32) else (1 : Int32)))))))))
theorem tf_out {x lo hi : Int32} : s6_isOutside x lo hi = (if x < lo then 1 else (if hi < x then 1 else 0)) := by
  simp only [s6_isOutside]
  by_cases c : x ≤ hi
  · have d : ¬ hi < x := by
      rw [Int32.lt_iff_toInt_lt]
      rw [Int32.le_iff_toInt_le] at c
      omega
    rw [if_pos c, if_neg d]
  · have d : hi < x := by
      rw [Int32.lt_iff_toInt_lt]
      exact cw_lt1 c
    rw [if_neg c, if_pos d]
theorem tf_le {x hi : Int32} : (if x ≤ hi then (0 : Int32) else 1) = (if hi < x then 1 else 0) := by
  by_cases c : x ≤ hi
  · have d : ¬ hi < x := by
      rw [Int32.lt_iff_toInt_lt]
      rw [Int32.le_iff_toInt_le] at c
      omega
    rw [if_pos c, if_neg d]
  · have d : hi < x := by
      rw [Int32.lt_iff_toInt_lt]
      exact cw_lt1 c
    rw [if_neg c, if_pos d]
theorem tf_ref : s6_refuseUnlessOff b f = (if f 3 = 0 then 0 else 1) := rfl
/-- what setting answers: as the law's row says, and it changes the settings only where it answers 0 -/
def tf_ok (st st1 : Nat → Int32) (bad x : Int32) (off : Prop) [Decidable off] : Prop := x = (if bad = 0 then (if off then 0 else (-103)) else (-102)) ∧ (x = 0 ∨ st1 = st) ∧ (ta_S st → ta_S st1)
theorem tf_n : ¬ (1 : Int32) = 0 ∧ ¬ (2 : Int32) = 0 ∧ ¬ (2 : Int32) = 1 := by decide
theorem tf_Sup {k : Nat} {v : Int32} (h : ta_S st) (hk : ¬ k = 0) (h9 : k = 9 ∨ k = 10 → 0 ≤ v.toInt ∧ v.toInt ≤ 50) : ta_S (upd st k v) := by
  obtain ⟨s1, s2, s3⟩ := h
  refine ⟨?_, ?_, ?_⟩
  · rw [cw_updn _ _ (fun q => hk q.symm)]; exact s1
  · by_cases c : k = 9
    · rw [c, cw_upd0]; exact h9 (Or.inl c)
    · rw [cw_updn _ _ (fun q => c q.symm)]; exact s2
  · by_cases c : k = 10
    · rw [c, cw_upd0]; exact h9 (Or.inr c)
    · rw [cw_updn _ _ (fun q => c q.symm)]; exact s3
theorem tf_sets (w a c d e : Int32) : tf_ok st (sL_sets b st f w a c d e).2 (tf_bad w a c d e) (sL_sets b st f w a c d e).1 (s6_state b f = 0) := by
  obtain ⟨n1, n2, n3⟩ := tf_n
  have hoff : ∀ x : Int32, s6_refuseUnlessOff b f = 0 ↔ f 3 = 0 := by
    intro _
    rw [tf_ref]
    by_cases q : f 3 = 0
    · rw [if_pos q]; exact ⟨fun _ => q, fun _ => rfl⟩
    · rw [if_neg q]; exact ⟨fun z => absurd z (by decide), fun z => absurd z q⟩
  have hb : ∀ y : Int32 × (Nat → Int32), y = ((-102), st) → tf_bad w a c d e = 1 → sL_sets b st f w a c d e = y → tf_ok st (sL_sets b st f w a c d e).2 (tf_bad w a c d e) (sL_sets b st f w a c d e).1 (s6_state b f = 0) := by
    intro y hy h1 h2
    rw [h2, hy, h1]
    exact ⟨by rw [if_neg n1], Or.inr rfl, fun q => q⟩
  have hg : ∀ y : Nat → Int32, (ta_S st → ta_S y) → tf_bad w a c d e = 0 → (f 3 = 0 → sL_sets b st f w a c d e = (0, y)) → (¬ f 3 = 0 → sL_sets b st f w a c d e = ((-103), st)) → tf_ok st (sL_sets b st f w a c d e).2 (tf_bad w a c d e) (sL_sets b st f w a c d e).1 (s6_state b f = 0) := by
    intro y hy h1 h2 h3
    by_cases q : f 3 = 0
    · have q2 : s6_state b f = 0 := q
      rw [h2 q, h1]
      exact ⟨by rw [if_pos rfl, if_pos q2], Or.inl rfl, hy⟩
    · have q2 : ¬ s6_state b f = 0 := q
      rw [h3 q, h1]
      exact ⟨by rw [if_pos rfl, if_neg q2], Or.inr rfl, fun z => z⟩
  have e1 : (1 : Int32).toInt = 1 := by decide
  have e50 : (50 : Int32).toInt = 50 := by decide
  by_cases w0 : w = 0
  · by_cases c1 : a < 1
    · exact hb _ rfl (by simp only [tf_bad, if_pos w0, if_pos c1]) (by simp only [sL_sets, sL_tries, s6_setTimes, tf_out, if_pos w0, if_pos c1, n1, if_false, if_true])
    by_cases c2 : 200 < a
    · exact hb _ rfl (by simp only [tf_bad, if_pos w0, if_neg c1, if_pos c2]) (by simp only [sL_sets, sL_tries, s6_setTimes, tf_out, if_pos w0, if_neg c1, if_pos c2, n1, if_false, if_true])
    by_cases c3 : c < 1
    · exact hb _ rfl (by simp only [tf_bad, if_pos w0, if_neg c1, if_neg c2, if_pos c3]) (by simp only [sL_sets, sL_tries, s6_setTimes, tf_out, if_pos w0, if_neg c1, if_neg c2, if_pos c3, n1, if_false, if_true])
    by_cases c4 : 30 < c
    · exact hb _ rfl (by simp only [tf_bad, if_pos w0, if_neg c1, if_neg c2, if_neg c3, if_pos c4]) (by simp only [sL_sets, sL_tries, s6_setTimes, tf_out, if_pos w0, if_neg c1, if_neg c2, if_neg c3, if_pos c4, n1, if_false, if_true])
    by_cases c5 : d < 1
    · exact hb _ rfl (by simp only [tf_bad, if_pos w0, if_neg c1, if_neg c2, if_neg c3, if_neg c4, if_pos c5]) (by simp only [sL_sets, sL_tries, s6_setTimes, tf_out, if_pos w0, if_neg c1, if_neg c2, if_neg c3, if_neg c4, if_pos c5, n1, if_false, if_true])
    by_cases c6 : 30 < d
    · exact hb _ rfl (by simp only [tf_bad, if_pos w0, if_neg c1, if_neg c2, if_neg c3, if_neg c4, if_neg c5, if_pos c6]) (by simp only [sL_sets, sL_tries, s6_setTimes, tf_out, if_pos w0, if_neg c1, if_neg c2, if_neg c3, if_neg c4, if_neg c5, if_pos c6, n1, if_false, if_true])
    by_cases c7 : e < 1
    · exact hb _ rfl (by simp only [tf_bad, if_pos w0, if_neg c1, if_neg c2, if_neg c3, if_neg c4, if_neg c5, if_neg c6, if_pos c7]) (by simp only [sL_sets, sL_tries, s6_setTimes, tf_out, if_pos w0, if_neg c1, if_neg c2, if_neg c3, if_neg c4, if_neg c5, if_neg c6, if_pos c7, n1, if_false, if_true])
    by_cases c8 : 60 < e
    · exact hb _ rfl (by simp only [tf_bad, tf_le, if_pos w0, if_neg c1, if_neg c2, if_neg c3, if_neg c4, if_neg c5, if_neg c6, if_neg c7, if_pos c8]) (by simp only [sL_sets, sL_tries, s6_setTimes, tf_out, if_pos w0, if_neg c1, if_neg c2, if_neg c3, if_neg c4, if_neg c5, if_neg c6, if_neg c7, if_pos c8, n1, if_false, if_true])
    refine hg (upd (upd (upd (upd st 1 a) 2 c) 3 d) 4 e) ?_ ?_ ?_ ?_
    · exact fun q => tf_Sup (tf_Sup (tf_Sup (tf_Sup q (by decide) (by omega)) (by decide) (by omega)) (by decide) (by omega)) (by decide) (by omega)
    · simp only [tf_bad, tf_le, if_pos w0, if_neg c1, if_neg c2, if_neg c3, if_neg c4, if_neg c5, if_neg c6, if_neg c7, if_neg c8]
    · intro q
      have q2 := (hoff 0).mpr q
      simp only [sL_sets, sL_tries, s6_setTimes, tf_out, q2, if_pos w0, if_neg c1, if_neg c2, if_neg c3, if_neg c4, if_neg c5, if_neg c6, if_neg c7, if_neg c8, n1, if_false, if_true]
    · intro q
      have q2 : ¬ s6_refuseUnlessOff b f = 0 := fun z => q ((hoff 0).mp z)
      simp only [sL_sets, sL_tries, s6_setTimes, tf_out, if_neg q2, if_pos w0, if_neg c1, if_neg c2, if_neg c3, if_neg c4, if_neg c5, if_neg c6, if_neg c7, if_neg c8, n1, n2, n3, if_false, if_true]
  · by_cases w1 : w = 1
    · by_cases c1 : a < 1
      · exact hb _ rfl (by simp only [tf_bad, if_neg w0, if_pos w1, if_pos c1]) (by simp only [sL_sets, sL_tries, s6_setEyes, tf_out, if_neg w0, if_pos w1, if_pos c1, n1, if_false, if_true])
      by_cases c2 : 5 < a
      · exact hb _ rfl (by simp only [tf_bad, if_neg w0, if_pos w1, if_neg c1, if_pos c2]) (by simp only [sL_sets, sL_tries, s6_setEyes, tf_out, if_neg w0, if_pos w1, if_neg c1, if_pos c2, n1, if_false, if_true])
      by_cases c3 : c < 1
      · exact hb _ rfl (by simp only [tf_bad, if_neg w0, if_pos w1, if_neg c1, if_neg c2, if_pos c3]) (by simp only [sL_sets, sL_tries, s6_setEyes, tf_out, if_neg w0, if_pos w1, if_neg c1, if_neg c2, if_pos c3, n1, if_false, if_true])
      by_cases c4 : 5 < c
      · exact hb _ rfl (by simp only [tf_bad, if_neg w0, if_pos w1, if_neg c1, if_neg c2, if_neg c3, if_pos c4]) (by simp only [sL_sets, sL_tries, s6_setEyes, tf_out, if_neg w0, if_pos w1, if_neg c1, if_neg c2, if_neg c3, if_pos c4, n1, if_false, if_true])
      by_cases c5 : d < 5
      · exact hb _ rfl (by simp only [tf_bad, if_neg w0, if_pos w1, if_neg c1, if_neg c2, if_neg c3, if_neg c4, if_pos c5]) (by simp only [sL_sets, sL_tries, s6_setEyes, tf_out, if_neg w0, if_pos w1, if_neg c1, if_neg c2, if_neg c3, if_neg c4, if_pos c5, n1, if_false, if_true])
      by_cases c6 : 100 < d
      · exact hb _ rfl (by simp only [tf_bad, tf_le, if_neg w0, if_pos w1, if_neg c1, if_neg c2, if_neg c3, if_neg c4, if_neg c5, if_pos c6]) (by simp only [sL_sets, sL_tries, s6_setEyes, tf_out, if_neg w0, if_pos w1, if_neg c1, if_neg c2, if_neg c3, if_neg c4, if_neg c5, if_pos c6, n1, if_false, if_true])
      refine hg (upd (upd (upd st 5 a) 6 c) 7 d) ?_ ?_ ?_ ?_
      · exact fun q => tf_Sup (tf_Sup (tf_Sup q (by decide) (by omega)) (by decide) (by omega)) (by decide) (by omega)
      · simp only [tf_bad, tf_le, if_neg w0, if_pos w1, if_neg c1, if_neg c2, if_neg c3, if_neg c4, if_neg c5, if_neg c6]
      · intro q
        have q2 := (hoff 0).mpr q
        simp only [sL_sets, sL_tries, s6_setEyes, tf_out, q2, if_neg w0, if_pos w1, if_neg c1, if_neg c2, if_neg c3, if_neg c4, if_neg c5, if_neg c6, n1, if_false, if_true]
      · intro q
        have q2 : ¬ s6_refuseUnlessOff b f = 0 := fun z => q ((hoff 0).mp z)
        simp only [sL_sets, sL_tries, s6_setEyes, tf_out, if_neg q2, if_neg w0, if_pos w1, if_neg c1, if_neg c2, if_neg c3, if_neg c4, if_neg c5, if_neg c6, n1, n2, n3, if_false, if_true]
    · by_cases c1 : a < 1
      · exact hb _ rfl (by simp only [tf_bad, if_neg w0, if_neg w1, if_pos c1]) (by simp only [sL_sets, sL_tries, s6_setFurnace, tf_out, if_neg w0, if_neg w1, if_pos c1, n1, if_false, if_true])
      by_cases c2 : 500 < a
      · exact hb _ rfl (by simp only [tf_bad, if_neg w0, if_neg w1, if_neg c1, if_pos c2]) (by simp only [sL_sets, sL_tries, s6_setFurnace, tf_out, if_neg w0, if_neg w1, if_neg c1, if_pos c2, n1, if_false, if_true])
      by_cases c3 : c < 1
      · exact hb _ rfl (by simp only [tf_bad, if_neg w0, if_neg w1, if_neg c1, if_neg c2, if_pos c3]) (by simp only [sL_sets, sL_tries, s6_setFurnace, tf_out, if_neg w0, if_neg w1, if_neg c1, if_neg c2, if_pos c3, n1, if_false, if_true])
      by_cases c4 : 50 < c
      · exact hb _ rfl (by simp only [tf_bad, if_neg w0, if_neg w1, if_neg c1, if_neg c2, if_neg c3, if_pos c4]) (by simp only [sL_sets, sL_tries, s6_setFurnace, tf_out, if_neg w0, if_neg w1, if_neg c1, if_neg c2, if_neg c3, if_pos c4, n1, if_false, if_true])
      by_cases c5 : d < 1
      · exact hb _ rfl (by simp only [tf_bad, if_neg w0, if_neg w1, if_neg c1, if_neg c2, if_neg c3, if_neg c4, if_pos c5]) (by simp only [sL_sets, sL_tries, s6_setFurnace, tf_out, if_neg w0, if_neg w1, if_neg c1, if_neg c2, if_neg c3, if_neg c4, if_pos c5, n1, if_false, if_true])
      by_cases c6 : 50 < d
      · exact hb _ rfl (by simp only [tf_bad, tf_le, if_neg w0, if_neg w1, if_neg c1, if_neg c2, if_neg c3, if_neg c4, if_neg c5, if_pos c6]) (by simp only [sL_sets, sL_tries, s6_setFurnace, tf_out, if_neg w0, if_neg w1, if_neg c1, if_neg c2, if_neg c3, if_neg c4, if_neg c5, if_pos c6, n1, if_false, if_true])
      have g3 := cw_le2 c3
      have g4 := cw_le2 c4
      have g5 := cw_le2 c5
      have g6 := cw_le2 c6
      refine hg (upd (upd (upd st 8 a) 9 c) 10 d) ?_ ?_ ?_ ?_
      · exact fun q => tf_Sup (tf_Sup (tf_Sup q (by decide) (by omega)) (by decide) (fun _ => by omega)) (by decide) (fun _ => by omega)
      · simp only [tf_bad, tf_le, if_neg w0, if_neg w1, if_neg c1, if_neg c2, if_neg c3, if_neg c4, if_neg c5, if_neg c6]
      · intro q
        have q2 := (hoff 0).mpr q
        simp only [sL_sets, sL_tries, s6_setFurnace, tf_out, q2, if_neg w0, if_neg w1, if_neg c1, if_neg c2, if_neg c3, if_neg c4, if_neg c5, if_neg c6, n1, if_false, if_true]
      · intro q
        have q2 : ¬ s6_refuseUnlessOff b f = 0 := fun z => q ((hoff 0).mp z)
        simp only [sL_sets, sL_tries, s6_setFurnace, tf_out, if_neg q2, if_neg w0, if_neg w1, if_neg c1, if_neg c2, if_neg c3, if_neg c4, if_neg c5, if_neg c6, n1, n2, n3, if_false, if_true]
/-- what 'told' must come to: its answer 1, the twin's signals and settings as the first's, all kept -/
def tf_E (T : Nat) (f ep eq hh t1 t2 t3 : Nat → Int32) (y : Int32 × (Nat → Int32) × (Nat → Int32) × (Nat → Int32) × (Nat → Int32)) : Prop := y.1 = 1 ∧ y.2.2.2.1 = y.2.1 ∧ y.2.2.2.2 = y.2.2.1 ∧ ta_J T y.2.1 y.2.2.1 f ep eq hh t1 t2 t3
theorem tf_told {T : Nat} (h : ta_J T b st f ep eq hh t1 t2 t3) (a3 a4 : Int32) : tf_E T f ep eq hh t1 t2 t3 (sL_told b st f ep eq hh t1 t2 t3 a3 a4) := by
  have hS := h.2.2.2.1
  simp only [sL_told]
  by_cases r3 : 3 ≤ sL_some a3 6
  · rw [if_pos r3]
    by_cases r4 : 4 ≤ sL_some a3 6
    · rw [if_pos r4]
      generalize (sL_some (a3 >>> ((3 : Int32) &&& 31)) 3) = w
      generalize (if a4 = 0 then (if w = 0 then (15 + (sL_some (a3 >>> ((5 : Int32) &&& 31)) 50)) else (if w = 1 then (1 + (sL_some (a3 >>> ((5 : Int32) &&& 31)) 3)) else (1 + (sL_some (a3 >>> ((5 : Int32) &&& 31)) 120)))) else ((sL_some (a3 >>> ((5 : Int32) &&& 31)) 520) - 9)) = x1
      generalize (if a4 = 0 then (if w = 0 then (3 + (sL_some (a3 >>> ((8 : Int32) &&& 31)) 9)) else (if w = 1 then (1 + (sL_some (a3 >>> ((8 : Int32) &&& 31)) 3)) else (10 + (sL_some (a3 >>> ((8 : Int32) &&& 31)) 41)))) else ((sL_some (a3 >>> ((8 : Int32) &&& 31)) 60) - 3)) = x2
      generalize (if a4 = 0 then (if w = 0 then (2 + (sL_some (a3 >>> ((11 : Int32) &&& 31)) 9)) else (if w = 1 then (5 + (sL_some (a3 >>> ((11 : Int32) &&& 31)) 9)) else (5 + (sL_some (a3 >>> ((11 : Int32) &&& 31)) 46)))) else ((sL_some (a3 >>> ((11 : Int32) &&& 31)) 110) - 3)) = x3
      generalize (if a4 = 0 then (1 + (sL_some (a3 >>> ((2 : Int32) &&& 31)) 9)) else ((sL_some (a3 >>> ((2 : Int32) &&& 31)) 70) - 3)) = x4
      obtain ⟨k1, k2, k3⟩ := tf_sets (b := b) (f := f) (st := st) w x1 x2 x3 x4
      have hbad : (if w = 0 then (if x1 < 1 then (1 : Int32) else (if 200 < x1 then (1 : Int32) else (if x2 < 1 then (1 : Int32) else (if 30 < x2 then (1 : Int32) else (if x3 < 1 then (1 : Int32) else (if 30 < x3 then (1 : Int32) else (if x4 < 1 then (1 : Int32) else (if x4 ≤ 60 then (0 : Int32) else (1 : Int32))))))))) else (if w = 1 then (if x1 < 1 then (1 : Int32) else (if 5 < x1 then (1 : Int32) else (if x2 < 1 then (1 : Int32) else (if 5 < x2 then (1 : Int32) else (if x3 < 5 then (1 : Int32) else (if x3 ≤ 100 then (0 : Int32) else (1 : Int32))))))) else (if x1 < 1 then (1 : Int32) else (if 500 < x1 then (1 : Int32) else (if x2 < 1 then (1 : Int32) else (if 50 < x2 then (1 : Int32) else (if x3 < 1 then (1 : Int32) else (if x3 ≤ 50 then (0 : Int32) else (1 : Int32))))))))) = tf_bad w x1 x2 x3 x4 := rfl
      rw [hbad]
      generalize tf_bad w x1 x2 x3 x4 = bad at k1
      generalize sL_sets b st f w x1 x2 x3 x4 = y at k1 k2 k3
      rw [if_pos k1, if_pos k1, ← k1]
      refine ⟨?_, rfl, rfl, ta_JS h (k3 hS)⟩
      show (if y.1 = 0 then (1 : Int32) else (if lg_cmp (sL_all b y.2 f ep eq hh t1 t2 t3) (sL_all b st f ep eq hh t1 t2 t3) = 0 then 1 else 0)) = 1
      by_cases z : y.1 = 0
      · rw [if_pos z]
      · rw [if_neg z, k2.resolve_left z, lg_cmp_self, if_pos rfl]
    · rw [if_neg r4]
      generalize (if a4 = 0 then (20 + (sL_some (a3 >>> ((3 : Int32) &&& 31)) 81)) else (sL_some (a3 >>> ((3 : Int32) &&& 31)) 130)) = w
      by_cases w0 : w < 20
      · have e := tf_r0 (b := b) (st := st) (w := w) (y := 0) (Or.inl w0)
        simp only [if_pos w0, e, lg_cmp_self, if_true]
        exact ⟨rfl, rfl, rfl, h⟩
      · by_cases w1 : w ≤ 100
        · have e := fun s : Nat → Int32 => tf_r1 (b := b) (st := s) (w := w) (y := 0) w0 w1
          have hs := hS.1
          have e19 : (19 : Int32).toInt = 19 := by decide
          have e101 : (101 : Int32).toInt = 101 := by decide
          have s1 : ¬ st 0 ≤ 19 := by rw [Int32.le_iff_toInt_le]; omega
          have s2 : ¬ 101 ≤ st 0 := by rw [Int32.le_iff_toInt_le]; omega
          have ea : sL_all b (upd st 0 w) f ep eq hh t1 t2 t3 = sL_all b st f ep eq hh t1 t2 t3 := tc_all rfl tc_pS
          simp only [if_neg w0, if_pos w1, e, cw_upd0, tf_upup, ea, if_neg s1, if_neg s2, lg_cmp_self, if_true]
          exact ⟨rfl, rfl, rfl, ta_JS h (tf_rS hS w0 w1)⟩
        · have e := tf_r0 (b := b) (st := st) (w := w) (y := 0) (Or.inr w1)
          simp only [if_neg w0, if_neg w1, e, lg_cmp_self, if_true]
          exact ⟨rfl, rfl, rfl, h⟩
  · rw [if_neg r3]
    generalize (if a4 = 0 then (sL_some (a3 >>> ((3 : Int32) &&& 31)) 6) else ((sL_some (a3 >>> ((3 : Int32) &&& 31)) 10) - 2)) = k
    have hy : ∀ z : Int32, (if z ≤ 0 then (0 : Int32) else 1) = 0 ∨ (if z ≤ 0 then (0 : Int32) else 1) = 1 := by
      intro z
      split
      · exact Or.inl rfl
      · exact Or.inr rfl
    have hy := hy (sL_some (a3 >>> ((7 : Int32) &&& 31)) 4)
    generalize (if sL_some (a3 >>> ((7 : Int32) &&& 31)) 4 ≤ 0 then (0 : Int32) else 1) = y at hy
    have e5 : (5 : Int32).toInt = 5 := by decide
    have e6 : (6 : Int32).toInt = 6 := by decide
    by_cases k0 : k < 0
    · have e := tf_s8o (b := b) (k := k) (y := y) (Or.inl k0)
      simp only [if_pos k0, e, lg_cmp_self, if_true]
      exact ⟨rfl, rfl, rfl, h⟩
    · by_cases k5 : k ≤ 5
      · have k6 : k < 6 := by
          rw [Int32.lt_iff_toInt_lt]
          rw [Int32.le_iff_toInt_le] at k5
          omega
        have e := fun s : Nat → Int32 => tf_s8i (b := s) k0 k6 hy
        have n0 : ¬ s6_isOn (b 5) (td_bit k) < 0 := by
          rcases z6_isOn (b 5) (td_bit k) with q | q <;> (rw [q]; decide)
        have ea : sL_all (upd b 5 (tf_set (b 5) k y)) st f ep eq hh t1 t2 t3 = sL_all b st f ep eq hh t1 t2 t3 := tc_all (tf_b6 _) tc_pb
        simp only [if_neg k0, if_pos k5, e, if_neg n0, cw_upd0, tf_on k0 k6 hy, tf_set2, tf_upup, ea, lg_cmp_self, if_true]
        exact ⟨rfl, rfl, rfl, ta_Jb h (tf_b6 (tf_set (b 5) k y))⟩
      · have k6 : ¬ k < 6 := by
          rw [Int32.lt_iff_toInt_lt]
          have := cw_lt1 k5
          omega
        have e := tf_s8o (b := b) (k := k) (y := y) (Or.inr k6)
        simp only [if_neg k0, if_neg k5, e, lg_cmp_self, if_true]
        exact ⟨rfl, rfl, rfl, h⟩
end TT
