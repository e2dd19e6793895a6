/-- a sequence answers 1 just where the state has changed -/
def pq_G (f : Nat → Int32) (x : Int32 × (Nat → Int32)) : Prop := (x.1 = 0 ∧ x.2 3 = f 3) ∨ (x.1 = 1 ∧ ¬ x.2 3 = f 3)
theorem pq_bg1 (f : Nat → Int32) (a b : Int32) : (s2_begin f a b).1 = 1 := rfl
theorem pq_bg3 (f : Nat → Int32) (a b : Int32) : (s2_begin f a b).2 3 = a := by
  simp only [s2_begin]
  (repeat' split) <;> simp [upd]
section PV
variable {f ep eq st : Nat → Int32} {a : Int32}
theorem pq_Gn : pq_G f (0, f) := Or.inl ⟨rfl, rfl⟩
theorem pq_G8 {v : Int32} : pq_G f (0, upd f 8 v) := by
  refine Or.inl ⟨rfl, ?_⟩
  show upd f 8 v 3 = f 3
  exact cw_updn _ _ (by decide)
theorem pq_Gb {g : Nat → Int32} {x y : Int32} (h : ¬ x = f 3) : pq_G f (1, (s2_begin g x y).2) := Or.inr ⟨rfl, by rw [pq_bg3]; exact h⟩
theorem pq_gOff (c : f 3 = 0) : pq_G f (s2_sequenceOff f ep eq st a) := by
  simp only [s2_sequenceOff, s2_lockOut, pq_bg1, pq_lit.1, if_false]
  repeat' (first | exact pq_Gn | exact pq_Gb (by rw [c]; decide) | split)
theorem pq_gPu (c : f 3 = 1) : pq_G f (s2_sequencePurge f ep eq st a) := by
  simp only [s2_sequencePurge, s2_lockOut, pq_bg1, pq_lit.1, if_false]
  generalize (if s6_isOn a 2 = 0 then (0 : Int32) else if f 6 < 70 then 0 else f 8 + f 6) = v
  repeat' (first | exact pq_Gn | exact pq_G8 | exact pq_Gb (by rw [c]; decide) | split)
theorem pq_gLP (c : f 3 = 2) : pq_G f (s2_lightPilot f ep eq st) := by
  simp only [s2_lightPilot, s2_lockOut, pq_bg1, pq_lit.1, if_false]
  repeat' (first | exact pq_Gn | exact pq_Gb (by rw [c]; decide) | split)
theorem pq_gLM (c : f 3 = 3) : pq_G f (s2_lightMain f ep eq st) := by
  simp only [s2_lightMain, s2_lockOut, pq_bg1, pq_lit.1, if_false]
  repeat' (first | exact pq_Gn | exact pq_Gb (by rw [c]; decide) | split)
theorem pq_gLi2 (c : f 3 = 2) : pq_G f (s2_sequenceLighting f ep eq st a) := by
  simp only [s2_sequenceLighting, s2_lockOut, pq_bg1]
  rw [if_pos c, if_pos c]
  repeat' (first | exact pq_gLP (ep := ep) (eq := eq) (st := st) c | exact pq_Gb (by rw [c]; decide) | split)
theorem pq_gLi3 (c : f 3 = 3) : pq_G f (s2_sequenceLighting f ep eq st a) := by
  have d : ¬ f 3 = 2 := by rw [c]; decide
  simp only [s2_sequenceLighting, s2_lockOut, pq_bg1]
  rw [if_neg d, if_neg d]
  repeat' (first | exact pq_gLM (ep := ep) (eq := eq) (st := st) c | exact pq_Gb (by rw [c]; decide) | split)
theorem pq_gRu (c : f 3 = 4) : pq_G f (s2_sequenceRun f ep eq st a) := by
  simp only [s2_sequenceRun, s2_lockOut, pq_bg1, pq_lit.1, if_false]
  repeat' (first | exact pq_Gn | exact pq_Gb (by rw [c]; decide) | split)
theorem pq_gAf (c : f 3 = 5) : pq_G f (s2_sequenceAfterPurge f ep eq st) := by
  simp only [s2_sequenceAfterPurge, s2_lockOut, pq_bg1]
  repeat' (first | exact pq_Gn | exact pq_Gb (by rw [c]; decide) | split)
theorem pq_flag : pq_G f (s2_sequence f ep eq st a) := by
  simp only [s2_sequence]
  by_cases c0 : f 3 = 0
  · rw [if_pos c0]; exact pq_gOff c0
  rw [if_neg c0]
  by_cases c1 : f 3 = 1
  · rw [if_pos c1]; exact pq_gPu c1
  rw [if_neg c1]
  by_cases c2 : f 3 = 2
  · rw [if_pos c2]; exact pq_gLi2 c2
  rw [if_neg c2]
  by_cases c3 : f 3 = 3
  · rw [if_pos c3]; exact pq_gLi3 c3
  rw [if_neg c3]
  by_cases c4 : f 3 = 4
  · rw [if_pos c4]; exact pq_gRu c4
  rw [if_neg c4]
  by_cases c5 : f 3 = 5
  · rw [if_pos c5]; exact pq_gAf c5
  rw [if_neg c5]
  exact pq_Gn
end PV
