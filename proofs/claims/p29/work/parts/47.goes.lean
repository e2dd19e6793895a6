/-! PURE: what 'goes' and 'back' come to -/
section TGO
variable {b f ep eq st hh t1 t2 t3 rs : Nat → Int32}
/-- both furnaces hold Y, the answer is 1 -/
def tg_R (Y : tb_Z) : Int32 × (Nat → Int32) × (Nat → Int32) × (Nat → Int32) × (Nat → Int32) × (Nat → Int32) × (Nat → Int32) × (Nat → Int32) × (Nat → Int32) × (Nat → Int32) × (Nat → Int32) × (Nat → Int32) × (Nat → Int32) × (Nat → Int32) × (Nat → Int32) × (Nat → Int32) × (Nat → Int32) :=
  (1, Y.1, Y.2.1, Y.2.2.1, Y.2.2.2.1, Y.2.2.2.2.1, Y.2.2.2.2.2.1, Y.2.2.2.2.2.2.1, Y.2.2.2.2.2.2.2, Y.1, Y.2.1, Y.2.2.1, Y.2.2.2.1, Y.2.2.2.2.1, Y.2.2.2.2.2.1, Y.2.2.2.2.2.2.1, Y.2.2.2.2.2.2.2)
theorem tg_o : sL_asks1 b 0 0 = (-102) ∧ sL_asks1 b 201 0 = (-102) ∧ sL_asks1 b (-1) 0 = (-102) := by
  refine ⟨?_, ?_, ?_⟩ <;> rfl
theorem tg_s6 (g : Nat → Int32) (k y : Int32) : (s6_signalN g k y).2 6 = g 6 := by
  simp only [s6_signalN]
  exact cw_updn _ _ (by decide)
theorem tg_num {x m : Int32} (h : m = 40 ∨ m = 6) : ∃ n : Nat, n ≤ 40 ∧ 1 + sL_some x m = nI n := by
  obtain ⟨h1, h2⟩ := la_n (x := x) h
  exact td_nI (B := 40) (by omega) h2
theorem tg_goes {T : Nat} (h : ta_J T b st f ep eq hh t1 t2 t3) (hT : T + 40 < 1000000) (a3 a4 : Int32) : ∃ Y : tb_Z, sL_goes b st f ep eq hh t1 t2 t3 a3 a4 = tg_R Y ∧ tb_J (T + 40) st Y := by
  simp only [sL_goes]
  by_cases z : a4 = 0
  · rw [if_pos z]
    generalize (if sL_some a3 4 ≤ 0 then sL_some (a3 >>> ((3 : Int32) &&& 31)) 64 else 39 ||| (if s6_state b f ≤ 1 then (0 : Int32) else (if 5 ≤ s6_state b f then (0 : Int32) else (24 : Int32)))) = w
    have hm : ∀ x : Int32, (if x = 0 then (40 : Int32) else (6 : Int32)) = 40 ∨ (if x = 0 then (40 : Int32) else (6 : Int32)) = 6 := by
      intro x
      split
      · exact Or.inl rfl
      · exact Or.inr rfl
    obtain ⟨n, hn, en⟩ := tg_num (x := a3 >>> ((9 : Int32) &&& 31)) (hm (sL_some (a3 >>> ((7 : Int32) &&& 31)) 4))
    rw [en]
    generalize e6 : (s6_signalN (s6_signalN (s6_signalN (s6_signalN (s6_signalN (s6_signalN b 0 (if ((w >>> ((0 : Int32) &&& 31)) &&& 1) = 1 then (1 : Int32) else (0 : Int32))).2 1 (if ((w >>> ((1 : Int32) &&& 31)) &&& 1) = 1 then (1 : Int32) else (0 : Int32))).2 2 (if ((w >>> ((2 : Int32) &&& 31)) &&& 1) = 1 then (1 : Int32) else (0 : Int32))).2 3 (if ((w >>> ((3 : Int32) &&& 31)) &&& 1) = 1 then (1 : Int32) else (0 : Int32))).2 4 (if ((w >>> ((4 : Int32) &&& 31)) &&& 1) = 1 then (1 : Int32) else (0 : Int32))).2 5 (if ((w >>> ((5 : Int32) &&& 31)) &&& 1) = 1 then (1 : Int32) else (0 : Int32))).2 = b1
    have h6 : b1 6 = b 6 := by
      rw [← e6, tg_s6, tg_s6, tg_s6, tg_s6, tg_s6, tg_s6]
    have hJ : tb_J T st (b1, f, ep, eq, hh, t1, t2, t3) := ta_Jb h h6
    have hp : s6_pollN b1 f ep eq st hh t1 t2 t3 (nI n) = (tb_c st n (b1, f, ep, eq, hh, t1, t2, t3) 0, tb_i st n (b1, f, ep, eq, hh, t1, t2, t3)) := tb_poll n (by omega) (b1, f, ep, eq, hh, t1, t2, t3)
    refine ⟨tb_i st n (b1, f, ep, eq, hh, t1, t2, t3), ?_, ?_⟩
    · exact tb_gL (b := b) (a3 := a3) (a4 := a4) (tk := s6_ticks b1) n hn _ _ hp n 41 0 T (b1, f, ep, eq, hh, t1, t2, t3) 0 (by omega) (by omega) hJ (by omega) (Int32.add_zero _).symm rfl rfl
    · have h9 := tb_iJ n T _ hJ (by omega)
      exact ta_JT h9 (by omega)
  · rw [if_neg z]
    obtain ⟨o1, o2, o3⟩ := tg_o (b := b)
    refine ⟨(b, f, ep, eq, hh, t1, t2, t3), ?_, ta_JT h (by omega)⟩
    simp only [o1, o2, o3, if_true]
    rfl
/-! a reset -/
theorem tg_rc {x : Int32} : s4_recent (s4_add rs x) x = 1 ∨ s4_recent (s4_add rs x) x = 2 ∨ s4_recent (s4_add rs x) x = 3 := by
  have c01 : ∀ p q : Int32, s4_countOf p q = 0 ∨ s4_countOf p q = 1 := by
    intro p q
    simp only [s4_countOf]
    split
    · exact Or.inl rfl
    · exact Or.inr rfl
  have c0 : s4_countOf x x = 1 := by
    simp only [s4_countOf]
    rw [Int32.sub_self, if_neg (by decide)]
  have e0 : s4_add rs x 0 = x := by simp only [s4_add]; exact cw_upd0 _ _ _
  simp only [s4_recent, e0, c0]
  rcases c01 (s4_add rs x 1) x with p | p <;> rcases c01 (s4_add rs x 2) x with q | q <;> rw [p, q] <;> decide
/-- what a reset may come to -/
theorem tg_reset {T : Nat} (h : ta_J T b st f ep eq hh t1 t2 t3) (hT : T + 1 < 1000000) :
    (sL_asks2 b f ep eq st hh t1 t2 t3 rs 0 0 = ((-103), f, hh, t1, t2, t3, rs)) ∨
    (∃ (r : Int32) (f1 h1 u1 u2 u3 r1 : Nat → Int32), sL_asks2 b f ep eq st hh t1 t2 t3 rs 0 0 = (r, f1, h1, u1, u2, u3, r1) ∧ (r = 1 ∨ r = 2 ∨ r = 3) ∧ f 3 = 6 ∧ ep 0 = 0 ∧ eq 0 = 0 ∧ ¬ f 5 ≤ 4 ∧ f1 3 = 0 ∧ f1 5 = 0 ∧ f1 6 = f 6 ∧ f1 7 = 0 ∧ h1 3 = hh 3 + 1 ∧ s3_read h1 u1 0 = b 6 ∧ ta_J (T + 1) b st f1 ep eq h1 u1 u2 u3) := by
  have hn : ∀ y : Int32 × Int32 × (Nat → Int32) × (Nat → Int32) × (Nat → Int32) × (Nat → Int32) × (Nat → Int32) × (Nat → Int32), s6_reset b f ep eq st hh t1 t2 t3 rs = y → y.1 = 1 → sL_asks2 b f ep eq st hh t1 t2 t3 rs 0 0 = ((-103), f, hh, t1, t2, t3, rs) := by
    intro y hy h1
    simp only [sL_asks2]
    rw [hy, h1, if_neg ta_n10]
  obtain ⟨h1, h2, hF, hS, n, t, P, Q, R, q1, q2, q3, q4, q5⟩ := h
  by_cases c1 : s2_isLockedOut f = 0
  · exact Or.inl (hn (1, 0, f, hh, t1, t2, t3, rs) (by simp only [s6_reset, if_pos c1]) rfl)
  by_cases c2 : s2_hasFlame f ep eq st = 0
  · by_cases c3 : f 5 < 5
    · exact Or.inl (hn (1, 0, f, hh, t1, t2, t3, rs) (by simp only [s6_reset, if_neg c1, if_pos c2, if_pos c3]) rfl)
    by_cases c4 : s4_recent rs (b 6) < 3
    · refine Or.inr ⟨s4_recent (s4_add rs (b 6)) (b 6), (s2_begin f 0 0).2, (s6_recordChange b (s2_begin f 0 0).2 hh t1 t2 t3).1, (s6_recordChange b (s2_begin f 0 0).2 hh t1 t2 t3).2.1, (s6_recordChange b (s2_begin f 0 0).2 hh t1 t2 t3).2.2.1, (s6_recordChange b (s2_begin f 0 0).2 hh t1 t2 t3).2.2.2, s4_add rs (b 6), ?_, tg_rc, ?_⟩
      · simp only [sL_asks2, s6_reset, if_neg c1, if_pos c2, if_neg c3, if_pos c4, if_true]
      · have f36 : f 3 = 6 := by
          by_cases c : f 3 = 6
          · exact c
          · exact absurd (by simp only [s2_isLockedOut, if_neg c]) c1
        have fe : ep 0 = 0 ∧ eq 0 = 0 := by
          by_cases e1 : ep 0 = 0
          · by_cases e2 : eq 0 = 0
            · exact ⟨e1, e2⟩
            · simp only [s2_hasFlame, if_pos e1, if_neg e2] at c2
              exact absurd c2 ta_n10
          · simp only [s2_hasFlame, if_neg e1] at c2
            exact absurd c2 ta_n10
        have f54 : ¬ f 5 ≤ 4 := by
          have e4 : (4 : Int32).toInt = 4 := by decide
          have e5 : (5 : Int32).toInt = 5 := by decide
          have := cw_le2 c3
          rw [Int32.le_iff_toInt_le]
          omega
        obtain ⟨b3, b4, b5, b6, b7, b70, b8⟩ := ta_bg f 0 0
        have hb7 := b70 (by decide) (by decide)
        have hbn : ¬ (s2_begin f 0 0).2 3 = f 3 := by rw [b3, f36]; decide
        have hb46 : 0 < (s2_begin f 0 0).2 4 ↔ (s2_begin f 0 0).2 3 = 6 := by rw [b3, b4]; decide
        have hK := ta_Kadd (b 6) ((s2_begin f 0 0).2 3) ((s2_begin f 0 0).2 4) q4 (by omega)
        have hL := ta_Ladd q5 q3 (by omega) (Or.inl rfl) hbn hb46 b5
        have hr := (ta_read hK (by omega) (show 0 < n + 1 by omega) (by omega)).1
        rw [show n + 1 - 1 - 0 = n by omega, cw_upd0] at hr
        have fF : ta_F (s2_begin f 0 0).2 := by
          have e9 : ¬ (s2_begin f 0 0).2 10 < (s2_begin f 0 0).2 9 := by
            have e : (s2_begin f 0 0).2 10 = f 10 ∧ (s2_begin f 0 0).2 9 = f 9 := by
              simp [s2_begin, upd]
            rw [e.1, e.2]
            exact hF.2.2.2.2.2.2.2
          refine ⟨by rw [b3]; decide, by rw [b3]; exact fun z => absurd z (by decide), fun _ => b4, by rw [b6]; exact hF.2.2.2.1, by rw [hb7]; decide, fun _ _ => hb7, fun _ => b8, e9⟩
        refine ⟨f36, fe.1, fe.2, f54, b3, b5, b6, hb7, ?_, hr, h1, h2, fF, hS, ?_⟩
        · have k1 := hK.1
          have k2 := q4.1
          rw [k2, nI_1]
          exact k1
        · exact ⟨n + 1, t, _, _, _, by omega, by omega, q3, hK, hL⟩
    · exact Or.inl (hn (1, 0, f, hh, t1, t2, t3, rs) (by simp only [s6_reset, if_neg c1, if_pos c2, if_neg c3, if_neg c4]) rfl)
  · exact Or.inl (hn (1, 0, f, hh, t1, t2, t3, rs) (by simp only [s6_reset, if_neg c1, if_neg c2]) rfl)
theorem tg_back {T : Nat} (h : ta_J T b st f ep eq hh t1 t2 t3) (hT : T + 1 < 1000000) :
    ∃ f1 h1 u1 u2 u3 r1 : Nat → Int32, sL_back b st f ep eq hh t1 t2 t3 rs = (1, f1, h1, u1, u2, u3, r1, f1, h1, u1, u2, u3, r1) ∧ ta_J (T + 1) b st f1 ep eq h1 u1 u2 u3 := by
  rcases tg_reset (rs := rs) h hT with e | ⟨r, f1, h1, u1, u2, u3, r1, e, hr, e3, ee, eq0, e5, g3, g5, g6, g7, k3, k0, hJ⟩
  · refine ⟨f, hh, t1, t2, t3, rs, ?_, ta_JT h (by omega)⟩
    simp only [sL_back, e, if_true, lg_cmp_self]
  · refine ⟨f1, h1, u1, u2, u3, r1, ?_, hJ⟩
    have n1 : ¬ r = (-103) := by rcases hr with q | q | q <;> (rw [q]; decide)
    have n2 : ¬ r ≤ 0 := by rcases hr with q | q | q <;> (rw [q]; decide)
    have n3 : ¬ 4 ≤ r := by rcases hr with q | q | q <;> (rw [q]; decide)
    have s1 : s6_state b f = 6 := e3
    have s2 : s6_sees b f ep eq 1 = 0 := eq0
    have s3 : s6_sees b f ep eq 0 = 0 := ee
    have s4 : ¬ s6_time b f ≤ 4 := e5
    have s5 : s6_state b f1 = 0 := g3
    have s6 : s6_time b f1 = 0 := g5
    have s7 : s6_air b f1 = s6_air b f := g6
    have s8 : s6_fuel b f1 = 0 := g7
    have s9 : s6_changes b h1 = s6_changes b hh + 1 := k3
    have s10 : s6_tickOfN b h1 u1 u2 u3 0 = s6_ticks b := k0
    simp only [sL_back, e, if_neg n1, s1, s2, s3, if_neg s4, if_true, ta_n10, if_false, if_neg n2, if_neg n3, s5, s6, s7, s8, s9, s10]
end TGO
