/-! PURE: a furnace of the class keeps its fields to one another, tick by tick -/
theorem ta_sub {a b : Int32} (ha : -5000 ≤ a.toInt ∧ a.toInt ≤ 5000) (hb : -5000 ≤ b.toInt ∧ b.toInt ≤ 5000) : (a - b).toInt = a.toInt - b.toInt := by
  rw [Int32.toInt_sub, Int.bmod_def]
  split <;> omega
theorem ta_add {a b : Int32} (ha : -5000 ≤ a.toInt ∧ a.toInt ≤ 5000) (hb : -5000 ≤ b.toInt ∧ b.toInt ≤ 5000) : (a + b).toInt = a.toInt + b.toInt := by
  rw [Int32.toInt_add, Int.bmod_def]
  split <;> omega
/-- the fields of a furnace: state, reason, positions, what was purged, the unlit times -/
def ta_F (f : Nat → Int32) : Prop :=
  (0 ≤ (f 3).toInt ∧ (f 3).toInt ≤ 6) ∧ (f 3 = 6 → 1 ≤ (f 4).toInt ∧ (f 4).toInt ≤ 8) ∧ (¬ f 3 = 6 → f 4 = 0) ∧ (0 ≤ (f 6).toInt ∧ (f 6).toInt ≤ 100) ∧ (0 ≤ (f 7).toInt ∧ (f 7).toInt ≤ 100) ∧ (¬ f 3 = 3 → ¬ f 3 = 4 → f 7 = 0) ∧ (¬ f 3 = 1 → f 8 = 0) ∧ ¬ f 10 < f 9
/-- the settings that the positions go by -/
def ta_S (st : Nat → Int32) : Prop := (20 ≤ (st 0).toInt ∧ (st 0).toInt ≤ 100) ∧ (0 ≤ (st 9).toInt ∧ (st 9).toInt ≤ 50) ∧ (0 ≤ (st 10).toInt ∧ (st 10).toInt ≤ 50)
/-- a state that may begin, with its reason -/
def ta_V (u v : Int32) : Prop := (0 ≤ u.toInt ∧ u.toInt ≤ 6) ∧ (u = 6 → 1 ≤ v.toInt ∧ v.toInt ≤ 8) ∧ (¬ u = 6 → v = 0)
/-- what a sequence may answer -/
def ta_G (g : Nat → Int32) (x : Int32 × (Nat → Int32)) : Prop :=
  (x.1 = 0 ∧ (x.2 = g ∨ (g 3 = 1 ∧ ∃ w : Int32, x.2 = upd g 8 w))) ∨ (x.1 = 1 ∧ ∃ (h : Nat → Int32) (u v : Int32), x.2 = (s2_begin h u v).2 ∧ (h = g ∨ ∃ w : Int32, h = upd g 8 w) ∧ ¬ u = g 3 ∧ ta_V u v)
theorem ta_bg1 (f : Nat → Int32) (a b : Int32) : (s2_begin f a b).1 = 1 := rfl
theorem ta_n10 : ¬ (1 : Int32) = 0 := by decide
section TA
variable {f ep eq st g : Nat → Int32} {a u v w : Int32}
theorem ta_Gn : ta_G f (0, f) := Or.inl ⟨rfl, Or.inl rfl⟩
theorem ta_G8 (c : f 3 = 1) : ta_G f (0, upd f 8 w) := Or.inl ⟨rfl, Or.inr ⟨c, _, rfl⟩⟩
theorem ta_Gb (h : ¬ u = f 3) (hv : ta_V u v) : ta_G f (1, (s2_begin f u v).2) := Or.inr ⟨rfl, f, u, v, rfl, Or.inl rfl, h, hv⟩
theorem ta_Gc (h : ¬ u = f 3) (hv : ta_V u v) : ta_G f (1, (s2_begin (upd f 8 w) u v).2) := Or.inr ⟨rfl, upd f 8 w, u, v, rfl, Or.inr ⟨w, rfl⟩, h, hv⟩
theorem ta_V0 : ta_V 0 0 := by unfold ta_V; decide
theorem ta_V1 : ta_V 1 0 := by unfold ta_V; decide
theorem ta_V2 : ta_V 2 0 := by unfold ta_V; decide
theorem ta_V3 : ta_V 3 0 := by unfold ta_V; decide
theorem ta_V4 : ta_V 4 0 := by unfold ta_V; decide
theorem ta_V5 : ta_V 5 0 := by unfold ta_V; decide
theorem ta_V61 : ta_V 6 1 := by unfold ta_V; decide
theorem ta_V62 : ta_V 6 2 := by unfold ta_V; decide
theorem ta_V63 : ta_V 6 3 := by unfold ta_V; decide
theorem ta_V64 : ta_V 6 4 := by unfold ta_V; decide
theorem ta_V65 : ta_V 6 5 := by unfold ta_V; decide
theorem ta_V66 : ta_V 6 6 := by unfold ta_V; decide
theorem ta_V67 : ta_V 6 7 := by unfold ta_V; decide
theorem ta_V68 : ta_V 6 8 := by unfold ta_V; decide
theorem ta_gOff (c : f 3 = 0) : ta_G f (s2_sequenceOff f ep eq st a) := by
  simp only [s2_sequenceOff, s2_lockOut, ta_bg1, ta_n10, if_false]
  repeat' (first | exact ta_Gn | exact ta_Gb (by rw [c]; decide) ta_V1 | exact ta_Gb (by rw [c]; decide) ta_V63 | split)
theorem ta_gPu (c : f 3 = 1) : ta_G f (s2_sequencePurge f ep eq st a) := by
  simp only [s2_sequencePurge, s2_lockOut, ta_bg1, ta_n10, if_false]
  generalize (if s6_isOn a 2 = 0 then (0 : Int32) else if f 6 < 70 then 0 else f 8 + f 6) = v
  repeat' (first | exact ta_Gn | exact ta_G8 c | exact ta_Gb (by rw [c]; decide) ta_V0 | exact ta_Gb (by rw [c]; decide) ta_V63 | exact ta_Gc (by rw [c]; decide) ta_V2 | exact ta_Gc (by rw [c]; decide) ta_V67 | split)
theorem ta_gLP (c : f 3 = 2) : ta_G f (s2_lightPilot f ep eq st) := by
  simp only [s2_lightPilot, s2_lockOut, ta_bg1, ta_n10, if_false]
  repeat' (first | exact ta_Gn | exact ta_Gb (by rw [c]; decide) ta_V3 | exact ta_Gb (by rw [c]; decide) ta_V64 | split)
theorem ta_gLM (c : f 3 = 3) : ta_G f (s2_lightMain f ep eq st) := by
  simp only [s2_lightMain, s2_lockOut, ta_bg1, ta_n10, if_false]
  repeat' (first | exact ta_Gn | exact ta_Gb (by rw [c]; decide) ta_V4 | exact ta_Gb (by rw [c]; decide) ta_V65 | split)
theorem ta_gLi2 (c : f 3 = 2) : ta_G f (s2_sequenceLighting f ep eq st a) := by
  simp only [s2_sequenceLighting, s2_lockOut, ta_bg1]
  rw [if_pos c, if_pos c]
  repeat' (first | exact ta_gLP (ep := ep) (eq := eq) (st := st) c | exact ta_Gb (by rw [c]; decide) ta_V61 | exact ta_Gb (by rw [c]; decide) ta_V62 | exact ta_Gb (by rw [c]; decide) ta_V5 | split)
theorem ta_gLi3 (c : f 3 = 3) : ta_G f (s2_sequenceLighting f ep eq st a) := by
  have d : ¬ f 3 = 2 := by rw [c]; decide
  simp only [s2_sequenceLighting, s2_lockOut, ta_bg1]
  rw [if_neg d, if_neg d]
  repeat' (first | exact ta_gLM (ep := ep) (eq := eq) (st := st) c | exact ta_Gb (by rw [c]; decide) ta_V61 | exact ta_Gb (by rw [c]; decide) ta_V62 | exact ta_Gb (by rw [c]; decide) ta_V5 | split)
theorem ta_gRu (c : f 3 = 4) : ta_G f (s2_sequenceRun f ep eq st a) := by
  simp only [s2_sequenceRun, s2_lockOut, ta_bg1, ta_n10, if_false]
  repeat' (first | exact ta_Gn | exact ta_Gb (by rw [c]; decide) ta_V61 | exact ta_Gb (by rw [c]; decide) ta_V62 | exact ta_Gb (by rw [c]; decide) ta_V66 | exact ta_Gb (by rw [c]; decide) ta_V68 | exact ta_Gb (by rw [c]; decide) ta_V5 | split)
theorem ta_gAf (c : f 3 = 5) : ta_G f (s2_sequenceAfterPurge f ep eq st) := by
  simp only [s2_sequenceAfterPurge, s2_lockOut, ta_bg1]
  repeat' (first | exact ta_Gn | exact ta_Gb (by rw [c]; decide) ta_V0 | exact ta_Gb (by rw [c]; decide) ta_V63 | split)
theorem ta_seq : ta_G f (s2_sequence f ep eq st a) := by
  simp only [s2_sequence]
  by_cases c0 : f 3 = 0
  · rw [if_pos c0]; exact ta_gOff c0
  rw [if_neg c0]
  by_cases c1 : f 3 = 1
  · rw [if_pos c1]; exact ta_gPu c1
  rw [if_neg c1]
  by_cases c2 : f 3 = 2
  · rw [if_pos c2]; exact ta_gLi2 c2
  rw [if_neg c2]
  by_cases c3 : f 3 = 3
  · rw [if_pos c3]; exact ta_gLi3 c3
  rw [if_neg c3]
  by_cases c4 : f 3 = 4
  · rw [if_pos c4]; exact ta_gRu c4
  rw [if_neg c4]
  by_cases c5 : f 3 = 5
  · rw [if_pos c5]; exact ta_gAf c5
  rw [if_neg c5]
  exact ta_Gn
/-- a position moves within 0 to 100 -/
theorem ta_mvB {p q c : Int32} (ha : 0 ≤ p.toInt ∧ p.toInt ≤ 100) (hb : 0 ≤ q.toInt ∧ q.toInt ≤ 100) (hc : 0 ≤ c.toInt ∧ c.toInt ≤ 50) : 0 ≤ (s2_moved p q c).toInt ∧ (s2_moved p q c).toInt ≤ 100 := by
  have e3 : (p - c).toInt = p.toInt - c.toInt := ta_sub (by omega) (by omega)
  have e4 : (p + c).toInt = p.toInt + c.toInt := ta_add (by omega) (by omega)
  simp only [s2_moved]
  by_cases g1 : q ≤ p
  · rw [if_pos g1]
    by_cases g2 : p - c < q
    · rw [if_pos g2]; exact hb
    · rw [if_neg g2]
      have g3 := cw_le2 g2
      omega
  · rw [if_neg g1]
    by_cases g2 : q < p + c
    · rw [if_pos g2]; exact hb
    · rw [if_neg g2]
      have g3 := cw_le2 g2
      omega
theorem ta_lit : (0 ≤ (0 : Int32).toInt ∧ (0 : Int32).toInt ≤ 100) ∧ (0 ≤ (100 : Int32).toInt ∧ (100 : Int32).toInt ≤ 100) ∧ (0 ≤ (30 : Int32).toInt ∧ (30 : Int32).toInt ≤ 100) ∧ (0 ≤ (60 : Int32).toInt ∧ (60 : Int32).toInt ≤ 100) ∧ (0 ≤ (20 : Int32).toInt ∧ (20 : Int32).toInt ≤ 100) := by decide
theorem ta_agB (h7 : 0 ≤ (f 7).toInt ∧ (f 7).toInt ≤ 100) (hS : ta_S st) : 0 ≤ (s2_airGoal f ep eq st).toInt ∧ (s2_airGoal f ep eq st).toInt ≤ 100 := by
  obtain ⟨l0, l1, l2, l3, -⟩ := ta_lit
  have h0 := hS.1
  simp only [s2_airGoal]
  repeat' (first | exact l0 | exact l1 | exact l2 | exact l3 | exact h7 | (constructor <;> omega) | split)
theorem ta_fgB (h6 : 0 ≤ (f 6).toInt ∧ (f 6).toInt ≤ 100) (hS : ta_S st) : 0 ≤ (s2_fuelGoal f ep eq st).toInt ∧ (s2_fuelGoal f ep eq st).toInt ≤ 100 := by
  obtain ⟨l0, l1, l2, l3, l4⟩ := ta_lit
  have h0 := hS.1
  simp only [s2_fuelGoal]
  repeat' (first | exact l0 | exact l4 | exact h6 | (constructor <;> omega) | split)
theorem ta_mp (hF : ta_F f) (hS : ta_S st) : (0 ≤ (s2_movePositions f ep eq st 6).toInt ∧ (s2_movePositions f ep eq st 6).toInt ≤ 100) ∧ (0 ≤ (s2_movePositions f ep eq st 7).toInt ∧ (s2_movePositions f ep eq st 7).toInt ≤ 100) ∧ (¬ f 3 = 3 → ¬ f 3 = 4 → s2_movePositions f ep eq st 7 = 0) := by
  obtain ⟨-, -, -, h6, h7, h73, -, -⟩ := hF
  have ha := ta_mvB h6 (ta_agB (ep := ep) (eq := eq) h7 hS) hS.2.1
  have hg := ta_fgB (ep := ep) (eq := eq) h6 hS
  have hm := ta_mvB h7 hg hS.2.2
  simp only [s2_movePositions]
  rw [cw_updn _ _ (show ¬ (6 : Nat) = 7 by decide), cw_upd0, cw_upd0]
  refine ⟨ha, ?_, ?_⟩
  · split
    · exact hg
    · exact hm
  · intro c3 c4
    have e : s2_isMainOpen (upd f 6 (s2_moved (f 6) (s2_airGoal f ep eq st) (st 9))) = 0 := by
      simp only [s2_isMainOpen, cw_updn f _ (show ¬ (3 : Nat) = 6 by decide), if_neg c3, if_neg c4]
    rw [if_pos e]
    simp only [s2_fuelGoal, if_neg c3, if_neg c4]
theorem ta_jmp (k : Nat) (h6 : ¬ k = 6) (h7 : ¬ k = 7) : s2_movePositions f ep eq st k = f k := by
  simp only [s2_movePositions]
  rw [cw_updn _ _ h7, cw_updn _ _ h6]
theorem ta_bg (h : Nat → Int32) (u v : Int32) : (s2_begin h u v).2 3 = u ∧ (s2_begin h u v).2 4 = v ∧ (s2_begin h u v).2 5 = 0 ∧ (s2_begin h u v).2 6 = h 6 ∧ ((s2_begin h u v).2 7 = h 7 ∨ (s2_begin h u v).2 7 = 0) ∧ (¬ u = 3 → ¬ u = 4 → (s2_begin h u v).2 7 = 0) ∧ (s2_begin h u v).2 8 = 0 := by
  by_cases c3 : u = 3
  · simp [s2_begin, upd, c3]
  · by_cases c4 : u = 4
    · simp [s2_begin, upd, c4]
    · simp [s2_begin, upd, c3, c4]
theorem ta_cu (z ep eq st : Nat → Int32) (y : Int32) : (∀ k, k ≤ 8 → s2_countUnlit z ep eq st y k = z k) ∧ ¬ s2_countUnlit z ep eq st y 10 < s2_countUnlit z ep eq st y 9 := by
  simp only [s2_countUnlit]
  generalize (if y = 0 then (0 : Int32) else if s2_hasFlame z ep eq st = 0 then z 9 + 1 else 0) = w
  refine ⟨fun k hk => by rw [cw_updn _ _ (by omega), cw_updn _ _ (by omega)], ?_⟩
  rw [cw_upd0, cw_updn _ _ (show ¬ (9 : Nat) = 10 by decide), cw_upd0]
  by_cases c : z 10 < w
  · rw [if_pos c]; exact Int32.lt_irrefl
  · rw [if_neg c]; exact c
theorem ta_tkE (f ep eq st : Nat → Int32) (a : Int32) : ∃ g ep1 eq1 : Nat → Int32, g = upd (s2_movePositions f ep1 eq1 st) 5 ((s2_movePositions f ep1 eq1 st) 5 + 1) ∧ (s2_tick f ep eq st a).2.2.1 = ep1 ∧ (s2_tick f ep eq st a).2.2.2 = eq1 ∧ (s2_tick f ep eq st a).1 = (s2_sequence g ep1 eq1 st a).1 ∧ (s2_tick f ep eq st a).2.1 = s2_countUnlit (s2_sequence g ep1 eq1 st a).2 ep1 eq1 st (if s2_isPilotOpen f = 0 then (if s2_isMainOpen f = 0 then 0 else 1) else 1) :=
  ⟨_, s2_look f st ep (s6_isOn a 8), s2_look f st eq (s6_isOn a 16), rfl, rfl, rfl, rfl, rfl⟩
/-- one tick: the fields keep to one another, and its answer tells whether the state changed -/
theorem ta_tick (hF : ta_F f) (hS : ta_S st) : ta_F (s2_tick f ep eq st a).2.1 ∧ (((s2_tick f ep eq st a).1 = 0 ∧ (s2_tick f ep eq st a).2.1 3 = f 3 ∧ (s2_tick f ep eq st a).2.1 4 = f 4 ∧ (s2_tick f ep eq st a).2.1 5 = f 5 + 1) ∨ ((s2_tick f ep eq st a).1 = 1 ∧ ¬ (s2_tick f ep eq st a).2.1 3 = f 3 ∧ (s2_tick f ep eq st a).2.1 5 = 0)) := by
  obtain ⟨g, ep1, eq1, eg, e1, e2, e3, e4⟩ := ta_tkE f ep eq st a
  obtain ⟨m6, m7, m70⟩ := ta_mp (ep := ep1) (eq := eq1) hF hS
  have hg : ∀ k, ¬ k = 5 → g k = s2_movePositions f ep1 eq1 st k := fun k hk => by rw [eg]; exact cw_updn _ _ hk
  have g3 : g 3 = f 3 := (hg 3 (by decide)).trans (ta_jmp 3 (by decide) (by decide))
  have g4 : g 4 = f 4 := (hg 4 (by decide)).trans (ta_jmp 4 (by decide) (by decide))
  have g5 : g 5 = f 5 + 1 := by rw [eg, cw_upd0, ta_jmp 5 (by decide) (by decide)]
  have g8 : g 8 = f 8 := (hg 8 (by decide)).trans (ta_jmp 8 (by decide) (by decide))
  rw [← hg 6 (by decide)] at m6
  rw [← hg 7 (by decide)] at m7 m70
  obtain ⟨h3, h46, h40, -, -, -, h8, -⟩ := hF
  have hG : ta_G g (s2_sequence g ep1 eq1 st a) := ta_seq
  obtain ⟨hc, hc9⟩ := ta_cu (s2_sequence g ep1 eq1 st a).2 ep1 eq1 st (if s2_isPilotOpen f = 0 then (if s2_isMainOpen f = 0 then 0 else 1) else 1)
  rw [← e4] at hc hc9
  rw [e3]
  generalize s2_sequence g ep1 eq1 st a = x at hG hc
  generalize (s2_tick f ep eq st a).2.1 = y at hc hc9
  have c3 := hc 3 (by decide)
  have c4 := hc 4 (by decide)
  have c5 := hc 5 (by decide)
  have c6 := hc 6 (by decide)
  have c7 := hc 7 (by decide)
  have c8 := hc 8 (by decide)
  rcases hG with ⟨x1, hx⟩ | ⟨x1, h, u, v, hx, hh, hu, hV1, hV2, hV3⟩
  · have d : ∀ k, ¬ k = 8 → x.2 k = g k := by
      intro k hk
      rcases hx with hx | ⟨-, w, hx⟩
      · rw [hx]
      · rw [hx]; exact cw_updn _ _ hk
    have d8 : ¬ f 3 = 1 → x.2 8 = 0 := by
      intro q
      rcases hx with hx | ⟨q1, w, hx⟩
      · rw [hx, g8]; exact h8 q
      · exact absurd (g3.symm.trans q1) q
    rw [d 3 (by decide), g3] at c3
    rw [d 4 (by decide), g4] at c4
    rw [d 5 (by decide), g5] at c5
    rw [d 6 (by decide)] at c6
    rw [d 7 (by decide)] at c7
    refine ⟨⟨by rw [c3]; exact h3, by rw [c3, c4]; exact h46, by rw [c3, c4]; exact h40, by rw [c6]; exact m6, by rw [c7]; exact m7, by rw [c3, c7]; exact m70, by rw [c3, c8]; exact d8, hc9⟩, Or.inl ⟨x1, c3, c4, c5⟩⟩
  · obtain ⟨b3, b4, b5, b6, b7, b70, b8⟩ := ta_bg h u v
    have d : ∀ k, ¬ k = 8 → h k = g k := by
      intro k hk
      rcases hh with hh | ⟨w, hh⟩
      · rw [hh]
      · rw [hh]; exact cw_updn _ _ hk
    rw [hx] at c3 c4 c5 c6 c7 c8
    rw [b3] at c3
    rw [b4] at c4
    rw [b5] at c5
    rw [b6, d 6 (by decide)] at c6
    rw [b8] at c8
    rw [d 7 (by decide)] at b7
    have b7B : 0 ≤ (y 7).toInt ∧ (y 7).toInt ≤ 100 := by
      rw [c7]
      rcases b7 with b7 | b7
      · rw [b7]; exact m7
      · rw [b7]; exact ta_lit.1
    refine ⟨⟨by rw [c3]; exact hV1, by rw [c3, c4]; exact hV2, by rw [c3, c4]; exact hV3, by rw [c6]; exact m6, b7B, by rw [c3, c7]; exact b70, fun _ => c8, hc9⟩, Or.inr ⟨x1, by rw [c3, ← g3]; exact hu, c5⟩⟩
end TA
