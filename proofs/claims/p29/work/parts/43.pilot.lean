/-! PURE: the way to the pilot goes by neither the signals nor the rate; so what 'all' tells doesn't either -/
section TC
variable {b b1 f ep eq st hh t1 t2 t3 z y : Nat → Int32} {a r : Int32}
theorem tc_u (k : Nat) (h : ¬ k = 0) : upd st 0 r k = st k := cw_updn _ _ h
theorem tc_c (b f ep eq b1 f1 ep1 eq1 st : Nat → Int32) : ∀ (n9 : Nat) (x y z : Nat → Int32) (i : Int32), s6_toPilot_L b f ep eq st n9 x y z i = s6_toPilot_L b1 f1 ep1 eq1 st n9 x y z i := by
  intro n9
  induction n9 with
  | zero => intro x y z i; rfl
  | succ n9 ih => intro x y z i; simp only [s6_toPilot_L, ih]
theorem tc_look : s2_look f (upd st 0 r) z a = s2_look f st z a := by
  simp only [s2_look, tc_u 6 (by decide), tc_u 5 (by decide)]
theorem tc_ag (h : ¬ f 3 = 4) : s2_airGoal f ep eq (upd st 0 r) = s2_airGoal f ep eq st := by
  simp only [s2_airGoal, if_neg h]
theorem tc_fg (h : ¬ f 3 = 4) : s2_fuelGoal f ep eq (upd st 0 r) = s2_fuelGoal f ep eq st := by
  simp only [s2_fuelGoal, if_neg h]
theorem tc_mp (h : ¬ f 3 = 4) : s2_movePositions f ep eq (upd st 0 r) = s2_movePositions f ep eq st := by
  simp only [s2_movePositions, tc_ag h, tc_fg h, tc_u 9 (by decide), tc_u 10 (by decide)]
theorem tc_seq : s2_sequence f ep eq (upd st 0 r) a = s2_sequence f ep eq st a := by
  have e1 : s2_sequenceOff f ep eq (upd st 0 r) a = s2_sequenceOff f ep eq st a := rfl
  have e2 : s2_sequencePurge f ep eq (upd st 0 r) a = s2_sequencePurge f ep eq st a := rfl
  have e3 : s2_sequenceLighting f ep eq (upd st 0 r) a = s2_sequenceLighting f ep eq st a := rfl
  have e4 : s2_sequenceRun f ep eq (upd st 0 r) a = s2_sequenceRun f ep eq st a := rfl
  have e5 : s2_sequenceAfterPurge f ep eq (upd st 0 r) = s2_sequenceAfterPurge f ep eq st := rfl
  simp only [s2_sequence, e1, e2, e3, e4, e5]
theorem tc_cu : s2_countUnlit z ep eq (upd st 0 r) a = s2_countUnlit z ep eq st a := by
  rfl
theorem tc_tick (h : ¬ f 3 = 4) : s2_tick f ep eq (upd st 0 r) a = s2_tick f ep eq st a := by
  simp only [s2_tick, tc_look, tc_mp h, tc_seq, tc_cu]
/-- neither main nor run behind a tick -/
def tc_N (x : Int32 × (Nat → Int32)) : Prop := ¬ x.2 3 = 3 ∧ ¬ x.2 3 = 4
theorem tc_Nb {u v w : Int32} (h : ¬ u = 3 ∧ ¬ u = 4) : tc_N (w, (s2_begin z u v).2) := by
  unfold tc_N
  show ¬ (s2_begin z u v).2 3 = 3 ∧ ¬ (s2_begin z u v).2 3 = 4
  rw [(ta_bg z u v).1]
  exact h
theorem tc_Nn {w : Int32} (h3 : ¬ f 3 = 3) (h4 : ¬ f 3 = 4) : tc_N (w, f) := ⟨h3, h4⟩
theorem tc_N8 {v w : Int32} (h3 : ¬ f 3 = 3) (h4 : ¬ f 3 = 4) : tc_N (w, upd f 8 v) := by
  unfold tc_N
  show ¬ upd f 8 v 3 = 3 ∧ ¬ upd f 8 v 3 = 4
  rw [cw_updn _ _ (by decide)]
  exact ⟨h3, h4⟩
theorem tc_sO (h3 : ¬ f 3 = 3) (h4 : ¬ f 3 = 4) : tc_N (s2_sequenceOff f ep eq st a) := by
  simp only [s2_sequenceOff, s2_lockOut, ta_bg1, ta_n10, if_false]
  repeat' (first | exact tc_Nn h3 h4 | exact tc_Nb (by decide) | split)
theorem tc_sP (h3 : ¬ f 3 = 3) (h4 : ¬ f 3 = 4) : tc_N (s2_sequencePurge f ep eq st a) := by
  simp only [s2_sequencePurge, s2_lockOut, ta_bg1, ta_n10, if_false]
  generalize (if s6_isOn a 2 = 0 then (0 : Int32) else if f 6 < 70 then 0 else f 8 + f 6) = v
  repeat' (first | exact tc_Nn h3 h4 | exact tc_N8 h3 h4 | exact tc_Nb (by decide) | split)
theorem tc_sA (h3 : ¬ f 3 = 3) (h4 : ¬ f 3 = 4) : tc_N (s2_sequenceAfterPurge f ep eq st) := by
  simp only [s2_sequenceAfterPurge, s2_lockOut, ta_bg1]
  repeat' (first | exact tc_Nn h3 h4 | exact tc_Nb (by decide) | split)
theorem tc_sq (h2 : ¬ f 3 = 2) (h3 : ¬ f 3 = 3) (h4 : ¬ f 3 = 4) : tc_N (s2_sequence f ep eq st a) := by
  simp only [s2_sequence]
  by_cases c0 : f 3 = 0
  · rw [if_pos c0]; exact tc_sO h3 h4
  rw [if_neg c0]
  by_cases c1 : f 3 = 1
  · rw [if_pos c1]; exact tc_sP h3 h4
  rw [if_neg c1, if_neg h2, if_neg h3, if_neg h4]
  by_cases c5 : f 3 = 5
  · rw [if_pos c5]; exact tc_sA h3 h4
  rw [if_neg c5]
  exact tc_Nn h3 h4
theorem tc_tk3 : (s2_tick f ep eq st a).2.1 3 = (s2_sequence (upd (s2_movePositions f (s2_look f st ep (s6_isOn a 8)) (s2_look f st eq (s6_isOn a 16)) st) 5 ((s2_movePositions f (s2_look f st ep (s6_isOn a 8)) (s2_look f st eq (s6_isOn a 16)) st) 5 + 1)) (s2_look f st ep (s6_isOn a 8)) (s2_look f st eq (s6_isOn a 16)) st a).2 3 :=
  (ta_cu (s2_sequence (upd (s2_movePositions f (s2_look f st ep (s6_isOn a 8)) (s2_look f st eq (s6_isOn a 16)) st) 5 ((s2_movePositions f (s2_look f st ep (s6_isOn a 8)) (s2_look f st eq (s6_isOn a 16)) st) 5 + 1)) (s2_look f st ep (s6_isOn a 8)) (s2_look f st eq (s6_isOn a 16)) st a).2 (s2_look f st ep (s6_isOn a 8)) (s2_look f st eq (s6_isOn a 16)) st (if s2_isPilotOpen f = 0 then (if s2_isMainOpen f = 0 then 0 else 1) else 1)).1 3 (by decide)
theorem tc_g3 {ep1 eq1 : Nat → Int32} : (upd (s2_movePositions f ep1 eq1 st) 5 ((s2_movePositions f ep1 eq1 st) 5 + 1)) 3 = f 3 := (cw_updn _ _ (by decide)).trans (ta_jmp 3 (by decide) (by decide))
theorem tc_nx (h2 : ¬ f 3 = 2) (h3 : ¬ f 3 = 3) (h4 : ¬ f 3 = 4) : ¬ (s2_tick f ep eq st a).2.1 3 = 3 ∧ ¬ (s2_tick f ep eq st a).2.1 3 = 4 := by
  rw [tc_tk3]
  exact tc_sq (by rw [tc_g3]; exact h2) (by rw [tc_g3]; exact h3) (by rw [tc_g3]; exact h4)
def tc_M (x : Int32 × (Nat → Int32)) : Prop := x.2 3 = 4 ∨ x.2 3 = 6
theorem tc_Mb {v w : Int32} : tc_M (w, (s2_begin z 6 v).2) := Or.inr (ta_bg z 6 v).1
theorem tc_on : s6_isOn 7 1 = 1 ∧ s6_isOn 7 2 = 1 ∧ s6_isOn 7 4 = 1 := by decide
theorem tc_sR (h : f 3 = 4) : tc_M (s2_sequenceRun f ep eq st 7) := by
  have hn : ∀ w : Int32, tc_M (w, f) := fun w => Or.inl h
  simp only [s2_sequenceRun, s2_lockOut, ta_bg1, tc_on.1, tc_on.2.1, tc_on.2.2, ta_n10, if_false]
  repeat' (first | exact hn _ | exact tc_Mb | split)
theorem tc_s4 (h : f 3 = 4) : tc_M (s2_sequence f ep eq st 7) := by
  have l : ¬ f 3 = 0 ∧ ¬ f 3 = 1 ∧ ¬ f 3 = 2 ∧ ¬ f 3 = 3 := by rw [h]; decide
  simp only [s2_sequence]
  rw [if_neg l.1, if_neg l.2.1, if_neg l.2.2.1, if_neg l.2.2.2, if_pos h]
  exact tc_sR h
theorem tc_s6 (h : f 3 = 6) : tc_M (s2_sequence f ep eq st a) := by
  have l : ¬ f 3 = 0 ∧ ¬ f 3 = 1 ∧ ¬ f 3 = 2 ∧ ¬ f 3 = 3 ∧ ¬ f 3 = 4 ∧ ¬ f 3 = 5 := by rw [h]; decide
  simp only [s2_sequence]
  rw [if_neg l.1, if_neg l.2.1, if_neg l.2.2.1, if_neg l.2.2.2.1, if_neg l.2.2.2.2.1, if_neg l.2.2.2.2.2]
  exact Or.inr h
theorem tc_46 (h : f 3 = 4 ∨ f 3 = 6) : (s2_tick f ep eq st 7).2.1 3 = 4 ∨ (s2_tick f ep eq st 7).2.1 3 = 6 := by
  rw [tc_tk3]
  rcases h with h | h
  · exact tc_s4 (by rw [tc_g3]; exact h)
  · exact tc_s6 (by rw [tc_g3]; exact h)
theorem tc_po (h : f 3 = 4 ∨ f 3 = 6) : s2_isPilotOpen f = 0 := by
  have l : ¬ (4 : Int32) = 2 ∧ ¬ (4 : Int32) = 3 ∧ ¬ (6 : Int32) = 2 ∧ ¬ (6 : Int32) = 3 := by decide
  rcases h with h | h <;> simp only [s2_isPilotOpen, h, l.1, l.2.1, l.2.2.1, l.2.2.2, if_false]
theorem tc_p0 (h : s2_isPilotOpen f = 0) : ¬ f 3 = 2 ∧ ¬ f 3 = 3 := by
  refine ⟨fun q => ?_, fun q => ?_⟩
  · simp only [s2_isPilotOpen, if_pos q] at h
    exact absurd h (by decide)
  · have q2 : ¬ f 3 = 2 := by rw [q]; decide
    simp only [s2_isPilotOpen, if_neg q2, if_pos q] at h
    exact absurd h (by decide)
theorem tc_A : ∀ (n9 : Nat) (x y z : Nat → Int32) (i : Int32), ¬ x 3 = 2 → ¬ x 3 = 3 → ¬ x 3 = 4 → s6_toPilot_L b f ep eq (upd st 0 r) n9 x y z i = s6_toPilot_L b f ep eq st n9 x y z i := by
  intro n9
  induction n9 with
  | zero => intro x y z i _ _ _; rfl
  | succ n9 ih =>
    intro x y z i h2 h3 h4
    simp only [s6_toPilot_L, tc_tick h4]
    by_cases c : 300 < i
    · rw [if_pos c, if_pos c]
    · rw [if_neg c, if_neg c]
      by_cases d : s2_isPilotOpen (s2_tick x y z st 7).2.1 = 0
      · rw [if_pos d, if_pos d]
        obtain ⟨n3, n4⟩ := tc_nx (ep := y) (eq := z) (st := st) (a := 7) h2 h3 h4
        exact ih _ _ _ _ (tc_p0 d).1 n3 n4
      · rw [if_neg d, if_neg d]
theorem tc_B : ∀ (n9 i : Nat) (x y z : Nat → Int32), i + n9 = 302 → 1 ≤ n9 → (x 3 = 4 ∨ x 3 = 6) → s6_toPilot_L b f ep eq st n9 x y z (nI i) = (-1) := by
  intro n9
  induction n9 with
  | zero => intro i x y z _ h _; omega
  | succ n9 ih =>
    intro i x y z h1 h2 h
    simp only [s6_toPilot_L]
    by_cases c : i = 301
    · rw [c, if_pos (show (300 : Int32) < nI 301 by decide)]
    · rw [if_neg (show ¬ (300 : Int32) < nI i from nI_nlt (a := 300) (by omega) (by decide))]
      have h9 := tc_46 (ep := y) (eq := z) (st := st) h
      rw [if_pos (tc_po h9), nI_1]
      exact ih (i + 1) _ _ _ (by omega) (by omega) h9
theorem tc_pb : s6_toPilot b1 f ep eq st = s6_toPilot b f ep eq st := by
  simp only [s6_toPilot, tc_c b1 f ep eq b f ep eq st]
theorem tc_pS : s6_toPilot b f ep eq (upd st 0 r) = s6_toPilot b f ep eq st := by
  simp only [s6_toPilot]
  by_cases c : s2_isPilotOpen f = 0
  · rw [if_pos c, if_pos c]
    obtain ⟨c2, c3⟩ := tc_p0 c
    by_cases c4 : f 3 = 4
    · have e1 : s6_toPilot_L b f ep eq (upd st 0 r) 301 f ep eq (nI 1) = (-1) := tc_B 301 1 f ep eq (by omega) (by omega) (Or.inl c4)
      have e2 : s6_toPilot_L b f ep eq st 301 f ep eq (nI 1) = (-1) := tc_B 301 1 f ep eq (by omega) (by omega) (Or.inl c4)
      exact e1.trans e2.symm
    · exact tc_A 301 f ep eq 1 c2 c3 c4
  · rw [if_neg c, if_neg c]
theorem tc_k1 (k : Int32) : s6_tickOfN b hh t1 t2 t3 k = s3_read hh t1 k := rfl
theorem tc_k2 (k : Int32) : s6_stateOfN b hh t1 t2 t3 k = s3_read hh t2 k := rfl
theorem tc_k3 (k : Int32) : s6_reasonOfN b hh t1 t2 t3 k = s3_read hh t3 k := rfl
theorem tc_allL {st1 : Nat → Int32} (hp : s6_toPilot b1 f ep eq st1 = s6_toPilot b f ep eq st) : ∀ (n9 : Nat) (x : Int64) (k0 k : Int32), sL_all_L b1 st1 f ep eq hh t1 t2 t3 n9 x k0 k = sL_all_L b st f ep eq hh t1 t2 t3 n9 x k0 k := by
  intro n9
  induction n9 with
  | zero => intro x k0 k; rfl
  | succ n9 ih => intro x k0 k; simp only [sL_all_L, hp, tc_k1, tc_k2, tc_k3, ih]
theorem tc_all {st1 : Nat → Int32} (hb : b1 6 = b 6) (hp : s6_toPilot b1 f ep eq st1 = s6_toPilot b f ep eq st) : sL_all b1 st1 f ep eq hh t1 t2 t3 = sL_all b st f ep eq hh t1 t2 t3 := by
  have e0 : s6_ticks b1 = s6_ticks b := hb
  have e1 : s6_state b1 f = s6_state b f := rfl
  have e2 : s6_reason b1 f = s6_reason b f := rfl
  have e3 : s6_time b1 f = s6_time b f := rfl
  have e4 : s6_air b1 f = s6_air b f := rfl
  have e5 : s6_fuel b1 f = s6_fuel b f := rfl
  have e6 : s6_purged b1 f = s6_purged b f := rfl
  have e7 : s6_unlit b1 f = s6_unlit b f := rfl
  have e8 : s6_longestUnlit b1 f = s6_longestUnlit b f := rfl
  have e9 : ∀ k : Int32, s6_sees b1 f ep eq k = s6_sees b f ep eq k := fun _ => rfl
  have e10 : s6_changes b1 hh = s6_changes b hh := rfl
  have e11 : s6_records b1 hh = s6_records b hh := rfl
  simp only [sL_all, e0, e1, e2, e3, e4, e5, e6, e7, e8, e9, e10, e11, tc_allL hp]
end TC
