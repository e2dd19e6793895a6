/-- what a decision may change -/
def pq_K (m n : Nat → Int32) : Prop := (∀ k, (k < 12 ∨ k = 15 ∨ 18 ≤ k) → n k = m k) ∧ (n 16 = m 16 ∨ n 16 = 0)
theorem pq_Kr {m : Nat → Int32} : pq_K m m := ⟨fun _ _ => rfl, Or.inl rfl⟩
theorem pq_Kt {m n q : Nat → Int32} (h : pq_K m n) (h2 : pq_K n q) : pq_K m q := by
  refine ⟨fun k hk => (h2.1 k hk).trans (h.1 k hk), ?_⟩
  rcases h2.2 with e | e
  · rw [e]; exact h.2
  · exact Or.inr e
theorem pq_Kb {m : Nat → Int32} (a b : Int32) : pq_K m (s7_begins m a b) := by
  constructor
  · intro k hk
    have h1 : ¬ k = 12 := by omega
    have h2 : ¬ k = 13 := by omega
    have h3 : ¬ k = 14 := by omega
    have h4 : ¬ k = 16 := by omega
    have h5 : ¬ k = 17 := by omega
    simp [s7_begins, upd, h1, h2, h3, h4, h5]
  · have e : s7_begins m a b 16 = (if a = 3 then m 16 else (if a = 4 then m 16 else 0)) := by
      simp only [s7_begins]
      exact cw_upd0 _ _ _
    rw [e]
    repeat' (first | exact Or.inl rfl | exact Or.inr rfl | split)
theorem pq_K17 {m : Nat → Int32} (v : Int32) : pq_K m (upd m 17 v) := by
  refine ⟨fun k hk => cw_updn _ _ (by omega), Or.inl (cw_updn _ _ (by decide))⟩
theorem pq_Klk {m : Nat → Int32} (a : Int32) : pq_K m (s7_lacks m a).2 := by
  simp only [s7_lacks]
  repeat' (first | exact pq_Kb _ _ | exact pq_Kr | split)
theorem pq_Kpu {m : Nat → Int32} (a b : Int32) : pq_K m (s7_purges m a b) := by
  simp only [s7_purges]
  repeat' (first | exact pq_Kb _ _ | exact pq_Kt (pq_K17 _) (pq_Kb _ _) | exact pq_K17 _ | split)
theorem pq_Kli {m : Nat → Int32} (a b : Int32) : pq_K m (s7_lights m a b) := by
  have h := pq_Klk (m := m) a
  simp only [s7_lights]
  repeat' (first | exact h | exact pq_Kt h (pq_Kb _ _) | split)
theorem pq_Kru {m : Nat → Int32} (a b : Int32) : pq_K m (s7_runs m a b) := by
  have h := pq_Klk (m := m) a
  simp only [s7_runs]
  repeat' (first | exact h | exact pq_Kt h (pq_Kb _ _) | split)
theorem pq_Kde {m : Nat → Int32} (a : Int32) : pq_K m (s7_decides m a) := by
  simp only [s7_decides]
  repeat' (first | exact pq_Kr | exact pq_Kb _ _ | exact pq_Kpu _ _ | exact pq_Kli _ _ | exact pq_Kru _ _ | split)
theorem pq_playE (mm : Nat → Int32) (a : Int32) : ∃ m1 m2 : Nat → Int32, m1 = upd (s7_looks mm a 0 (mm 19)).2 19 (s7_looks mm a 0 (mm 19)).1 ∧ m2 = upd (s7_looks m1 a 1 (m1 20)).2 20 (s7_looks m1 a 1 (m1 20)).1 ∧ s7_plays mm a = s7_decides (upd (s7_goes m2) 14 (s7_goes m2 14 + 1)) a := by
  have e : (upd (s7_looks mm a 0 (mm 19)).2 19 (s7_looks mm a 0 (mm 19)).1) 20 = (s7_looks mm a 0 (mm 19)).2 20 := cw_updn _ _ (by decide)
  refine ⟨_, _, rfl, rfl, ?_⟩
  rw [e]
  rfl
section PU
variable {f ep eq st mm : Nat → Int32} {a : Int32}
theorem pq_up5 {m : Nat → Int32} (h : pq_F f m) : pq_F (upd f 5 (f 5 + 1)) (upd m 14 (m 14 + 1)) := by
  obtain ⟨h3, h4, h5, h6, h7, h8⟩ := h
  simp [pq_F, upd, h3, h4, h5, h6, h7, h8]
theorem pq_cU {g m : Nat → Int32} (w : Int32) (h : pq_F g m) : pq_F (s2_countUnlit g ep eq st w) m := by
  obtain ⟨h3, h4, h5, h6, h7, h8⟩ := h
  simp [pq_F, s2_countUnlit, upd, h3, h4, h5, h6, h7, h8]
theorem pq_Ec {m m2 : Nat → Int32} (h : pq_E ep eq m) (h2 : ∀ k, 18 ≤ k → k ≤ 20 → m2 k = m k) : pq_E ep eq m2 := by
  obtain ⟨hp, hq, h18, h19, h20⟩ := h
  exact ⟨hp, hq, (h2 18 (by decide) (by decide)).trans h18, h19.trans (h2 19 (by decide) (by decide)).symm, h20.trans (h2 20 (by decide) (by decide)).symm⟩
theorem pq_Bc {m m2 : Nat → Int32} (h : pq_B m) (h2 : ∀ k, k < 12 ∨ k = 15 ∨ k = 16 → m2 k = m k) : pq_B m2 := by
  unfold pq_B
  rw [h2 15 (by decide), h2 16 (by decide), h2 10 (by decide), h2 11 (by decide), h2 1 (by decide), h2 8 (by decide)]
  exact h
theorem pq_Bk {m n : Nat → Int32} (h : pq_B m) (h2 : pq_K m n) : pq_B n := by
  obtain ⟨h15, h16, h10, h11, h1, h8⟩ := h
  have h0 : (0 : Int32).toInt = 0 := by decide
  unfold pq_B
  rw [h2.1 15 (by decide), h2.1 10 (by decide), h2.1 11 (by decide), h2.1 1 (by decide), h2.1 8 (by decide)]
  refine ⟨h15, ?_, h10, h11, h1, h8⟩
  rcases h2.2 with e | e
  · rw [e]; exact h16
  · rw [e, h0]; omega
/-- one tick of the class and one of the model -/
theorem pq_tick (hF : pq_F f mm) (hE : pq_E ep eq mm) (hS : pq_S st mm) (hB : pq_B mm) (ha : ∃ j : Nat, j < 64 ∧ a = nI j) :
    pq_F (s2_tick f ep eq st a).2.1 (s7_plays mm a) ∧ pq_E (s2_tick f ep eq st a).2.2.1 (s2_tick f ep eq st a).2.2.2 (s7_plays mm a) ∧ pq_S st (s7_plays mm a) ∧ pq_B (s7_plays mm a) := by
  obtain ⟨m1, m2, e1, e2, e3⟩ := pq_playE mm a
  have hE1 := pq_look0 (f := f) hE hS ha
  rw [← e1] at hE1
  have k1 : ∀ k, k ≠ 18 → k ≠ 19 → m1 k = mm k := fun k c d => by rw [e1, cw_updn _ _ d, wq_looksF _ _ _ _ _ c]
  have hS1 : pq_S st m1 := fun k hk => (hS k hk).trans (k1 (k + 1) (by omega) (by omega)).symm
  have hE2 := pq_look1 (f := f) hE1 hS1 ha
  rw [← e2] at hE2
  have k2 : ∀ k, k ≠ 18 → k ≠ 20 → m2 k = m1 k := fun k c d => by rw [e2, cw_updn _ _ d, wq_looksF _ _ _ _ _ c]
  have k3 : ∀ k, k < 18 → m2 k = mm k := fun k hk => (k2 k (by omega) (by omega)).trans (k1 k (by omega) (by omega))
  have hS2 : pq_S st m2 := fun k hk => (hS k hk).trans (k3 (k + 1) (by omega)).symm
  have hF2 : pq_F f m2 := pq_Fc hF (fun k _ hk => k3 k (by omega))
  have hB2 : pq_B m2 := pq_Bc hB (fun k hk => k3 k (by omega))
  have hF3 := pq_goes (ep := s2_look f st ep (s6_isOn a 8)) (eq := s2_look f st eq (s6_isOn a 16)) hF2 hS2 hB2
  have hB3 := pq_goesB hB2
  have hF4 := pq_up5 hF3
  have k4 : ∀ k, k ≠ 14 → k ≠ 15 → k ≠ 16 → upd (s7_goes m2) 14 (s7_goes m2 14 + 1) k = m2 k := fun k c d g => by rw [cw_updn _ _ c, wq_goesF _ _ d g]
  have hB4 : pq_B (upd (s7_goes m2) 14 (s7_goes m2 14 + 1)) := pq_Bc hB3 (fun k hk => cw_updn _ _ (by omega))
  have hS4 : pq_S st (upd (s7_goes m2) 14 (s7_goes m2 14 + 1)) := fun k hk => (hS2 k hk).trans (k4 (k + 1) (by omega) (by omega) (by omega)).symm
  have hE4 := pq_Ec hE2 (fun k c d => k4 k (by omega) (by omega) (by omega))
  have hF5 := pq_decides hF4 hE4 hS4 ha hB4.2.2.2.2.2
  have hK := pq_Kde (m := upd (s7_goes m2) 14 (s7_goes m2 14 + 1)) a
  rw [← e3] at hF5 hK
  refine ⟨pq_cU _ hF5, pq_Ec hE4 (fun k c d => hK.1 k (by omega)), fun k hk => (hS4 k hk).trans (hK.1 (k + 1) (by omega)).symm, pq_Bk hB4 hK⟩
end PU
