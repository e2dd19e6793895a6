theorem cw_in0w : vp_in (0 : Int32) 512 := by
  rw [vp_in_iff]
  decide
/-- two states of the model agree on the settings -/
def wq_ag (m0 x : Nat → Int32) : Prop := ∀ k, k < 12 → x k = m0 k
/-- the first n longs of t differ pairwise and stand in U -/
def wq_nb (t : Nat → Int64) (n : Nat) (U : List Int64) : Prop := (∀ i j, i < n → j < n → t i = t j → i = j) ∧ ∀ i, i < n → t i ∈ U
/-- the signals that tell each way of a tick apart (those of the eyes set aside) -/
def wq_L (n : Nat → Int32) : List Int32 :=
  if n 12 = 4 then (if (n 14 + 1) - (n 14 + 1) / n 8 * n 8 = 0 then [0, 2, 6, 38, 39] else [0, 2, 6, 7])
  else if n 12 = 2 then [0, 2, 6, 7] else if n 12 = 3 then [0, 2, 6, 7] else if n 12 = 1 then [0, 1, 3] else if n 12 = 0 then [0, 1] else [0]
def wq_out (m0 : Nat → Int32) (x : Int64) : List Int64 :=
  ([0, 8, 16, 24] : List Int32).flatMap (fun e => (wq_L (s7_unpacks m0 x)).map (fun o => s7_packs (s7_plays (s7_unpacks m0 x) (e + o))))
def wq_U (m0 : Nat → Int32) (w : Nat → Int64) (n : Nat) : List Int64 := (List.range n).flatMap (fun i => wq_out m0 (w i))
/-- how many states there may be at step t -/
def wq_bd (t : Int32) (N : Nat) : Prop := (t = 1 → N ≤ 1) ∧ (t = 2 → N ≤ 20) ∧ N ≤ 400
def wq_O (m0 : Nat → Int32) (a1 : Int32) (n9 : Nat) (x : Nat → Int32) (w : Nat → Int64) (t : Int32) : Prop :=
  a1.toInt ≤ 3 ∧ 1 ≤ t.toInt ∧ cw_cnt (a1.toInt + 1) t n9 ∧ wq_ag m0 x ∧ ∃ N : Nat, x 32 = nI N ∧ wq_bd t N
def wq_M (m0 : Nat → Int32) (a1 : Int32) (nO n9 : Nat) (x : Nat → Int32) (w th : Nat → Int64) (t more k : Int32) : Prop :=
  (a1.toInt ≤ 3 ∧ 1 ≤ t.toInt ∧ t.toInt ≤ a1.toInt ∧ cw_cnt (a1.toInt + 1) t (nO + 1)) ∧ wq_ag m0 x ∧ ∃ N M : Nat, x 32 = nI N ∧ wq_bd t N ∧ more = nI M ∧ wq_nb th M (wq_U m0 w N) ∧ cw_cnt N k n9 ∧ (t = a1 → M = 0)
def wq_I (m0 : Nat → Int32) (a1 : Int32) (nP nO n9 : Nat) (x : Nat → Int32) (w th : Nat → Int64) (t more k told : Int32) : Prop :=
  (a1.toInt ≤ 3 ∧ 1 ≤ t.toInt ∧ t.toInt ≤ a1.toInt ∧ cw_cnt (a1.toInt + 1) t (nP + 1)) ∧ wq_ag m0 x ∧ (∃ N M : Nat, x 32 = nI N ∧ wq_bd t N ∧ more = nI M ∧ wq_nb th M (wq_U m0 w N) ∧ cw_cnt N k (nO + 1) ∧ k.toInt < N ∧ (t = a1 → M = 0)) ∧ cw_cnt 64 told n9
def wq_C (m0 : Nat → Int32) (a1 : Int32) (nO n9 : Nat) (x : Nat → Int32) (t k : Int32) : Prop :=
  (a1.toInt ≤ 3 ∧ 1 ≤ t.toInt ∧ t.toInt ≤ a1.toInt ∧ cw_cnt (a1.toInt + 1) t (nO + 1)) ∧ wq_ag m0 x ∧ ∃ M : Nat, x 32 = nI M ∧ wq_bd (t + 1) M ∧ cw_cnt M k n9
/-- two states of the model agree on the fields that a tick reads -/
def wq_20 (n n0 : Nat → Int32) : Prop := ∀ k, k ≤ 20 → n k = n0 k
theorem g7_upd {n n0 : Nat → Int32} (h : wq_20 n n0) (i : Nat) (v : Int32) : wq_20 (upd n i v) (upd n0 i v) := by
  intro k hk
  simp only [upd, h k hk]
theorem g7_begins {n n0 : Nat → Int32} (h : wq_20 n n0) (a b : Int32) : wq_20 (s7_begins n a b) (s7_begins n0 a b) := by
  have h16 := h 16 (by decide)
  simp only [s7_begins, h16]
  exact g7_upd (g7_upd (g7_upd (g7_upd (g7_upd h _ _) _ _) _ _) _ _) _ _
theorem g7_lacks {n n0 : Nat → Int32} (h : wq_20 n n0) (a : Int32) : (s7_lacks n a).1 = (s7_lacks n0 a).1 ∧ wq_20 (s7_lacks n a).2 (s7_lacks n0 a).2 := by
  simp only [s7_lacks]
  repeat' (first | exact ⟨rfl, h⟩ | exact ⟨rfl, g7_begins h _ _⟩ | split)
theorem g7_looks {n n0 : Nat → Int32} (h : wq_20 n n0) (a b c : Int32) : (s7_looks n a b c).1 = (s7_looks n0 a b c).1 ∧ wq_20 (s7_looks n a b c).2 (s7_looks n0 a b c).2 := by
  have h6 := h 6 (by decide)
  have h7 := h 7 (by decide)
  have h18 := h 18 (by decide)
  simp only [s7_looks, h6, h7, h18]
  repeat' (first | exact ⟨rfl, h⟩ | exact ⟨rfl, g7_upd h _ _⟩ | split)
theorem g7_goes {n n0 : Nat → Int32} (h : wq_20 n n0) : wq_20 (s7_goes n) (s7_goes n0) := by
  have h1 := h 1 (by decide)
  have h10 := h 10 (by decide)
  have h11 := h 11 (by decide)
  have h12 := h 12 (by decide)
  have h15 := h 15 (by decide)
  have h16 := h 16 (by decide)
  simp only [s7_goes, h1, h10, h11, h12, h15, h16]
  exact g7_upd (g7_upd h _ _) _ _
theorem g7_purges {n n0 : Nat → Int32} (h : wq_20 n n0) (a b : Int32) : wq_20 (s7_purges n a b) (s7_purges n0 a b) := by
  have h2 := h 2 (by decide)
  have h9 := h 9 (by decide)
  have h14 := h 14 (by decide)
  have h15 := h 15 (by decide)
  have h17 := h 17 (by decide)
  have h18 := h 18 (by decide)
  simp only [s7_purges, h2, h9, h14, h15, h17, h18]
  repeat' (first | exact g7_begins h _ _ | exact g7_begins (g7_upd h _ _) _ _ | exact g7_upd h _ _ | split)
theorem g7_lights {n n0 : Nat → Int32} (h : wq_20 n n0) (a b : Int32) : wq_20 (s7_lights n a b) (s7_lights n0 a b) := by
  obtain ⟨e, h'⟩ := g7_lacks h a
  have h3 := h' 3 (by decide)
  have h4 := h' 4 (by decide)
  have h12 := h' 12 (by decide)
  have h14 := h' 14 (by decide)
  have h18 := h' 18 (by decide)
  simp only [s7_lights, e, h3, h4, h12, h14, h18]
  repeat' (first | exact g7_begins h' _ _ | exact h' | split)
theorem g7_runs {n n0 : Nat → Int32} (h : wq_20 n n0) (a b : Int32) : wq_20 (s7_runs n a b) (s7_runs n0 a b) := by
  obtain ⟨e, h'⟩ := g7_lacks h a
  have h8 := h' 8 (by decide)
  have h14 := h' 14 (by decide)
  have h18 := h' 18 (by decide)
  simp only [s7_runs, e, h8, h14, h18]
  repeat' (first | exact g7_begins h' _ _ | exact h' | split)
theorem g7_decides {n n0 : Nat → Int32} (h : wq_20 n n0) (a : Int32) : wq_20 (s7_decides n a) (s7_decides n0 a) := by
  have h5 := h 5 (by decide)
  have h12 := h 12 (by decide)
  have h14 := h 14 (by decide)
  have h18 := h 18 (by decide)
  simp only [s7_decides, h5, h12, h14, h18]
  repeat' (first | exact g7_begins h _ _ | exact h | exact g7_purges h _ _ | exact g7_lights h _ _ | exact g7_runs h _ _ | split)
theorem g7_plays {n n0 : Nat → Int32} (h : wq_20 n n0) (a : Int32) : wq_20 (s7_plays n a) (s7_plays n0 a) := by
  have e19 := h 19 (by decide)
  obtain ⟨e1, h1⟩ := g7_looks h a 0 (n0 19)
  have e20 := h1 20 (by decide)
  obtain ⟨e2, h2⟩ := g7_looks (g7_upd h1 19 (s7_looks n0 a 0 (n0 19)).1) a 1 ((s7_looks n0 a 0 (n0 19)).2 20)
  have h3 := g7_goes (g7_upd h2 20 (s7_looks (upd (s7_looks n0 a 0 (n0 19)).2 19 (s7_looks n0 a 0 (n0 19)).1) a 1 ((s7_looks n0 a 0 (n0 19)).2 20)).1)
  have e14 := h3 14 (by decide)
  simp only [s7_plays, e19, e1, e20, e2, e14]
  exact g7_decides (g7_upd h3 _ _) a
theorem g7_packs {n n0 : Nat → Int32} (h : wq_20 n n0) : s7_packs n = s7_packs n0 := by
  simp only [s7_packs, h 12 (by decide), h 13 (by decide), h 14 (by decide), h 15 (by decide), h 16 (by decide), h 17 (by decide), h 18 (by decide), h 19 (by decide), h 20 (by decide)]
theorem g7_unpacks {x m0 : Nat → Int32} (hg : wq_ag m0 x) (y : Int64) : wq_20 (s7_unpacks x y) (s7_unpacks m0 y) := by
  intro k hk
  simp only [s7_unpacks, upd]
  (repeat' split) <;> first | rfl | exact hg k (by omega)
theorem wq_looksA {a b : Int32} (n : Nat → Int32) (i c : Int32) (h : s7_has a (3 + i) = s7_has b (3 + i)) : s7_looks n a i c = s7_looks n b i c := by
  simp only [s7_looks, h]
theorem wq_looksF (n : Nat → Int32) (a b c : Int32) (k : Nat) (hk : k ≠ 18) : (s7_looks n a b c).2 k = n k := by
  simp only [s7_looks]
  repeat' (first | rfl | exact cw_updn _ _ hk | split)
theorem wq_goesF (n : Nat → Int32) (k : Nat) (h1 : k ≠ 15) (h2 : k ≠ 16) : s7_goes n k = n k := by
  simp only [s7_goes]
  rw [cw_updn _ _ h2, cw_updn _ _ h1]
theorem wq_playsA {a b : Int32} (n : Nat → Int32) (h3 : s7_has a 3 = s7_has b 3) (h4 : s7_has a 4 = s7_has b 4)
    (hD : ∀ n' : Nat → Int32, n' 12 = n 12 → n' 14 = n 14 + 1 → n' 8 = n 8 → s7_decides n' a = s7_decides n' b) : s7_plays n a = s7_plays n b := by
  have e0 : (3 + 0 : Int32) = 3 := by decide
  have e1 : (3 + 1 : Int32) = 4 := by decide
  have g1 : ∀ (m : Nat → Int32) (c : Int32), s7_looks m a 0 c = s7_looks m b 0 c := fun m c => wq_looksA m 0 c (by rw [e0]; exact h3)
  have g2 : ∀ (m : Nat → Int32) (c : Int32), s7_looks m a 1 c = s7_looks m b 1 c := fun m c => wq_looksA m 1 c (by rw [e1]; exact h4)
  simp only [s7_plays, g1, g2]
  refine hD _ ?_ ?_ ?_
  · rw [cw_updn _ _ (by decide), wq_goesF _ _ (by decide) (by decide), cw_updn _ _ (by decide), wq_looksF _ _ _ _ _ (by decide), cw_updn _ _ (by decide), wq_looksF _ _ _ _ _ (by decide)]
  · rw [cw_upd0, wq_goesF _ _ (by decide) (by decide), cw_updn _ _ (by decide), wq_looksF _ _ _ _ _ (by decide), cw_updn _ _ (by decide), wq_looksF _ _ _ _ _ (by decide)]
  · rw [cw_updn _ _ (by decide), wq_goesF _ _ (by decide) (by decide), cw_updn _ _ (by decide), wq_looksF _ _ _ _ _ (by decide), cw_updn _ _ (by decide), wq_looksF _ _ _ _ _ (by decide)]
def wq_os : List Int32 := [0, 1, 2, 3, 6, 7, 38, 39]
def wq_eP (e o a3 a4 : Int32) : Prop := s7_has (e + o) 3 = a3 ∧ s7_has (e + o) 4 = a4 ∧ s7_has (e + o) 0 = s7_has o 0 ∧ s7_has (e + o) 1 = s7_has o 1 ∧ s7_has (e + o) 2 = s7_has o 2 ∧ s7_has (e + o) 5 = s7_has o 5
theorem wq_e (a : Int32) : ∃ e ∈ ([0, 8, 16, 24] : List Int32), ∀ o ∈ wq_os, wq_eP e o (s7_has a 3) (s7_has a 4) := by
  rcases z7_has a 3 with h3 | h3 <;> rcases z7_has a 4 with h4 | h4 <;> rw [h3, h4]
  · exact ⟨0, by decide, by unfold wq_eP; decide +kernel⟩
  · exact ⟨16, by decide, by unfold wq_eP; decide +kernel⟩
  · exact ⟨8, by decide, by unfold wq_eP; decide +kernel⟩
  · exact ⟨24, by decide, by unfold wq_eP; decide +kernel⟩
def wq_oP (n : Nat → Int32) (a o : Int32) : Prop := o ∈ wq_L n ∧ o ∈ wq_os ∧ ∀ (n' : Nat → Int32) (b : Int32), n' 12 = n 12 → n' 14 = n 14 + 1 → n' 8 = n 8 → s7_has b 0 = s7_has o 0 → s7_has b 1 = s7_has o 1 → s7_has b 2 = s7_has o 2 → s7_has b 5 = s7_has o 5 → s7_decides n' a = s7_decides n' b
theorem wq_o0 (n : Nat → Int32) (a : Int32) (c : n 12 = 0) : ∃ o, wq_oP n a o := by
  have l10 : ¬ ((1 : Int32) = 0) := by decide
  have l20 : ¬ ((2 : Int32) = 0) := by decide
  have l21 : ¬ ((2 : Int32) = 1) := by decide
  have l30 : ¬ ((3 : Int32) = 0) := by decide
  have l31 : ¬ ((3 : Int32) = 1) := by decide
  have l32 : ¬ ((3 : Int32) = 2) := by decide
  have l40 : ¬ ((4 : Int32) = 0) := by decide
  have l41 : ¬ ((4 : Int32) = 1) := by decide
  have l42 : ¬ ((4 : Int32) = 2) := by decide
  have l43 : ¬ ((4 : Int32) = 3) := by decide
  have l50 : ¬ ((5 : Int32) = 0) := by decide
  have l51 : ¬ ((5 : Int32) = 1) := by decide
  have l52 : ¬ ((5 : Int32) = 2) := by decide
  have l53 : ¬ ((5 : Int32) = 3) := by decide
  have l54 : ¬ ((5 : Int32) = 4) := by decide
  have l60 : ¬ ((6 : Int32) = 0) := by decide
  have l61 : ¬ ((6 : Int32) = 1) := by decide
  have l62 : ¬ ((6 : Int32) = 2) := by decide
  have l63 : ¬ ((6 : Int32) = 3) := by decide
  have l64 : ¬ ((6 : Int32) = 4) := by decide
  have l65 : ¬ ((6 : Int32) = 5) := by decide
  have l02 : ¬ ((0 : Int32) = 2) := by decide
  have l32' : ¬ ((3 : Int32) = 2) := by decide
  rcases z7_has a 0 with h0 | h0
  · skip
    refine ⟨0, by simp [wq_L, c], by decide, fun n' b q1 q2 q3 f0 f1 f2 f5 => ?_⟩
    have f0 : s7_has b 0 = 0 := f0.trans (by decide)
    have f1 : s7_has b 1 = 0 := f1.trans (by decide)
    have f2 : s7_has b 2 = 0 := f2.trans (by decide)
    have f5 : s7_has b 5 = 0 := f5.trans (by decide)
    simp only [s7_decides, s7_purges, s7_lights, s7_runs, s7_lacks, q1, q2, q3, c, h0, f0, f1, f2, f5, if_true, if_false, l10, l20, l21, l30, l31, l32, l40, l41, l42, l43, l50, l51, l52, l53, l54, l60, l61, l62, l63, l64, l65]
  · skip
    refine ⟨1, by simp [wq_L, c], by decide, fun n' b q1 q2 q3 f0 f1 f2 f5 => ?_⟩
    have f0 : s7_has b 0 = 1 := f0.trans (by decide)
    have f1 : s7_has b 1 = 0 := f1.trans (by decide)
    have f2 : s7_has b 2 = 0 := f2.trans (by decide)
    have f5 : s7_has b 5 = 0 := f5.trans (by decide)
    simp only [s7_decides, s7_purges, s7_lights, s7_runs, s7_lacks, q1, q2, q3, c, h0, f0, f1, f2, f5, if_true, if_false, l10, l20, l21, l30, l31, l32, l40, l41, l42, l43, l50, l51, l52, l53, l54, l60, l61, l62, l63, l64, l65]
theorem wq_o1 (n : Nat → Int32) (a : Int32) (c : n 12 = 1) : ∃ o, wq_oP n a o := by
  have l10 : ¬ ((1 : Int32) = 0) := by decide
  have l20 : ¬ ((2 : Int32) = 0) := by decide
  have l21 : ¬ ((2 : Int32) = 1) := by decide
  have l30 : ¬ ((3 : Int32) = 0) := by decide
  have l31 : ¬ ((3 : Int32) = 1) := by decide
  have l32 : ¬ ((3 : Int32) = 2) := by decide
  have l40 : ¬ ((4 : Int32) = 0) := by decide
  have l41 : ¬ ((4 : Int32) = 1) := by decide
  have l42 : ¬ ((4 : Int32) = 2) := by decide
  have l43 : ¬ ((4 : Int32) = 3) := by decide
  have l50 : ¬ ((5 : Int32) = 0) := by decide
  have l51 : ¬ ((5 : Int32) = 1) := by decide
  have l52 : ¬ ((5 : Int32) = 2) := by decide
  have l53 : ¬ ((5 : Int32) = 3) := by decide
  have l54 : ¬ ((5 : Int32) = 4) := by decide
  have l60 : ¬ ((6 : Int32) = 0) := by decide
  have l61 : ¬ ((6 : Int32) = 1) := by decide
  have l62 : ¬ ((6 : Int32) = 2) := by decide
  have l63 : ¬ ((6 : Int32) = 3) := by decide
  have l64 : ¬ ((6 : Int32) = 4) := by decide
  have l65 : ¬ ((6 : Int32) = 5) := by decide
  have l02 : ¬ ((0 : Int32) = 2) := by decide
  have l32' : ¬ ((3 : Int32) = 2) := by decide
  rcases z7_has a 0 with h0 | h0
  · skip
    refine ⟨0, by simp [wq_L, c], by decide, fun n' b q1 q2 q3 f0 f1 f2 f5 => ?_⟩
    have f0 : s7_has b 0 = 0 := f0.trans (by decide)
    have f1 : s7_has b 1 = 0 := f1.trans (by decide)
    have f2 : s7_has b 2 = 0 := f2.trans (by decide)
    have f5 : s7_has b 5 = 0 := f5.trans (by decide)
    simp only [s7_decides, s7_purges, s7_lights, s7_runs, s7_lacks, q1, q2, q3, c, h0, f0, f1, f2, f5, if_true, if_false, l10, l20, l21, l30, l31, l32, l40, l41, l42, l43, l50, l51, l52, l53, l54, l60, l61, l62, l63, l64, l65]
  · skip
    rcases z7_has a 1 with h1 | h1
    · skip
      refine ⟨1, by simp [wq_L, c], by decide, fun n' b q1 q2 q3 f0 f1 f2 f5 => ?_⟩
      have f0 : s7_has b 0 = 1 := f0.trans (by decide)
      have f1 : s7_has b 1 = 0 := f1.trans (by decide)
      have f2 : s7_has b 2 = 0 := f2.trans (by decide)
      have f5 : s7_has b 5 = 0 := f5.trans (by decide)
      simp only [s7_decides, s7_purges, s7_lights, s7_runs, s7_lacks, q1, q2, q3, c, h0, h1, f0, f1, f2, f5, if_true, if_false, l10, l20, l21, l30, l31, l32, l40, l41, l42, l43, l50, l51, l52, l53, l54, l60, l61, l62, l63, l64, l65]
    · skip
      refine ⟨3, by simp [wq_L, c], by decide, fun n' b q1 q2 q3 f0 f1 f2 f5 => ?_⟩
      have f0 : s7_has b 0 = 1 := f0.trans (by decide)
      have f1 : s7_has b 1 = 1 := f1.trans (by decide)
      have f2 : s7_has b 2 = 0 := f2.trans (by decide)
      have f5 : s7_has b 5 = 0 := f5.trans (by decide)
      simp only [s7_decides, s7_purges, s7_lights, s7_runs, s7_lacks, q1, q2, q3, c, h0, h1, f0, f1, f2, f5, if_true, if_false, l10, l20, l21, l30, l31, l32, l40, l41, l42, l43, l50, l51, l52, l53, l54, l60, l61, l62, l63, l64, l65]
theorem wq_o2 (n : Nat → Int32) (a : Int32) (c : n 12 = 2) : ∃ o, wq_oP n a o := by
  have l10 : ¬ ((1 : Int32) = 0) := by decide
  have l20 : ¬ ((2 : Int32) = 0) := by decide
  have l21 : ¬ ((2 : Int32) = 1) := by decide
  have l30 : ¬ ((3 : Int32) = 0) := by decide
  have l31 : ¬ ((3 : Int32) = 1) := by decide
  have l32 : ¬ ((3 : Int32) = 2) := by decide
  have l40 : ¬ ((4 : Int32) = 0) := by decide
  have l41 : ¬ ((4 : Int32) = 1) := by decide
  have l42 : ¬ ((4 : Int32) = 2) := by decide
  have l43 : ¬ ((4 : Int32) = 3) := by decide
  have l50 : ¬ ((5 : Int32) = 0) := by decide
  have l51 : ¬ ((5 : Int32) = 1) := by decide
  have l52 : ¬ ((5 : Int32) = 2) := by decide
  have l53 : ¬ ((5 : Int32) = 3) := by decide
  have l54 : ¬ ((5 : Int32) = 4) := by decide
  have l60 : ¬ ((6 : Int32) = 0) := by decide
  have l61 : ¬ ((6 : Int32) = 1) := by decide
  have l62 : ¬ ((6 : Int32) = 2) := by decide
  have l63 : ¬ ((6 : Int32) = 3) := by decide
  have l64 : ¬ ((6 : Int32) = 4) := by decide
  have l65 : ¬ ((6 : Int32) = 5) := by decide
  have l02 : ¬ ((0 : Int32) = 2) := by decide
  have l32' : ¬ ((3 : Int32) = 2) := by decide
  rcases z7_has a 1 with h1 | h1
  · skip
    refine ⟨0, by simp [wq_L, c], by decide, fun n' b q1 q2 q3 f0 f1 f2 f5 => ?_⟩
    have f0 : s7_has b 0 = 0 := f0.trans (by decide)
    have f1 : s7_has b 1 = 0 := f1.trans (by decide)
    have f2 : s7_has b 2 = 0 := f2.trans (by decide)
    have f5 : s7_has b 5 = 0 := f5.trans (by decide)
    simp only [s7_decides, s7_purges, s7_lights, s7_runs, s7_lacks, q1, q2, q3, c, h1, f0, f1, f2, f5, if_true, if_false, l10, l20, l21, l30, l31, l32, l40, l41, l42, l43, l50, l51, l52, l53, l54, l60, l61, l62, l63, l64, l65]
  · skip
    rcases z7_has a 2 with h2 | h2
    · skip
      refine ⟨2, by simp [wq_L, c], by decide, fun n' b q1 q2 q3 f0 f1 f2 f5 => ?_⟩
      have f0 : s7_has b 0 = 0 := f0.trans (by decide)
      have f1 : s7_has b 1 = 1 := f1.trans (by decide)
      have f2 : s7_has b 2 = 0 := f2.trans (by decide)
      have f5 : s7_has b 5 = 0 := f5.trans (by decide)
      simp only [s7_decides, s7_purges, s7_lights, s7_runs, s7_lacks, q1, q2, q3, c, h1, h2, f0, f1, f2, f5, if_true, if_false, l10, l20, l21, l30, l31, l32, l40, l41, l42, l43, l50, l51, l52, l53, l54, l60, l61, l62, l63, l64, l65]
    · skip
      rcases z7_has a 0 with h0 | h0
      · skip
        refine ⟨6, by simp [wq_L, c], by decide, fun n' b q1 q2 q3 f0 f1 f2 f5 => ?_⟩
        have f0 : s7_has b 0 = 0 := f0.trans (by decide)
        have f1 : s7_has b 1 = 1 := f1.trans (by decide)
        have f2 : s7_has b 2 = 1 := f2.trans (by decide)
        have f5 : s7_has b 5 = 0 := f5.trans (by decide)
        simp only [s7_decides, s7_purges, s7_lights, s7_runs, s7_lacks, q1, q2, q3, c, h1, h2, h0, f0, f1, f2, f5, if_true, if_false, l10, l20, l21, l30, l31, l32, l40, l41, l42, l43, l50, l51, l52, l53, l54, l60, l61, l62, l63, l64, l65]
      · skip
        refine ⟨7, by simp [wq_L, c], by decide, fun n' b q1 q2 q3 f0 f1 f2 f5 => ?_⟩
        have f0 : s7_has b 0 = 1 := f0.trans (by decide)
        have f1 : s7_has b 1 = 1 := f1.trans (by decide)
        have f2 : s7_has b 2 = 1 := f2.trans (by decide)
        have f5 : s7_has b 5 = 0 := f5.trans (by decide)
        simp only [s7_decides, s7_purges, s7_lights, s7_runs, s7_lacks, q1, q2, q3, c, h1, h2, h0, f0, f1, f2, f5, if_true, if_false, l10, l20, l21, l30, l31, l32, l40, l41, l42, l43, l50, l51, l52, l53, l54, l60, l61, l62, l63, l64, l65]
theorem wq_o3 (n : Nat → Int32) (a : Int32) (c : n 12 = 3) : ∃ o, wq_oP n a o := by
  have l10 : ¬ ((1 : Int32) = 0) := by decide
  have l20 : ¬ ((2 : Int32) = 0) := by decide
  have l21 : ¬ ((2 : Int32) = 1) := by decide
  have l30 : ¬ ((3 : Int32) = 0) := by decide
  have l31 : ¬ ((3 : Int32) = 1) := by decide
  have l32 : ¬ ((3 : Int32) = 2) := by decide
  have l40 : ¬ ((4 : Int32) = 0) := by decide
  have l41 : ¬ ((4 : Int32) = 1) := by decide
  have l42 : ¬ ((4 : Int32) = 2) := by decide
  have l43 : ¬ ((4 : Int32) = 3) := by decide
  have l50 : ¬ ((5 : Int32) = 0) := by decide
  have l51 : ¬ ((5 : Int32) = 1) := by decide
  have l52 : ¬ ((5 : Int32) = 2) := by decide
  have l53 : ¬ ((5 : Int32) = 3) := by decide
  have l54 : ¬ ((5 : Int32) = 4) := by decide
  have l60 : ¬ ((6 : Int32) = 0) := by decide
  have l61 : ¬ ((6 : Int32) = 1) := by decide
  have l62 : ¬ ((6 : Int32) = 2) := by decide
  have l63 : ¬ ((6 : Int32) = 3) := by decide
  have l64 : ¬ ((6 : Int32) = 4) := by decide
  have l65 : ¬ ((6 : Int32) = 5) := by decide
  have l02 : ¬ ((0 : Int32) = 2) := by decide
  have l32' : ¬ ((3 : Int32) = 2) := by decide
  rcases z7_has a 1 with h1 | h1
  · skip
    refine ⟨0, by simp [wq_L, c], by decide, fun n' b q1 q2 q3 f0 f1 f2 f5 => ?_⟩
    have f0 : s7_has b 0 = 0 := f0.trans (by decide)
    have f1 : s7_has b 1 = 0 := f1.trans (by decide)
    have f2 : s7_has b 2 = 0 := f2.trans (by decide)
    have f5 : s7_has b 5 = 0 := f5.trans (by decide)
    simp only [s7_decides, s7_purges, s7_lights, s7_runs, s7_lacks, q1, q2, q3, c, h1, f0, f1, f2, f5, if_true, if_false, l10, l20, l21, l30, l31, l32, l40, l41, l42, l43, l50, l51, l52, l53, l54, l60, l61, l62, l63, l64, l65]
  · skip
    rcases z7_has a 2 with h2 | h2
    · skip
      refine ⟨2, by simp [wq_L, c], by decide, fun n' b q1 q2 q3 f0 f1 f2 f5 => ?_⟩
      have f0 : s7_has b 0 = 0 := f0.trans (by decide)
      have f1 : s7_has b 1 = 1 := f1.trans (by decide)
      have f2 : s7_has b 2 = 0 := f2.trans (by decide)
      have f5 : s7_has b 5 = 0 := f5.trans (by decide)
      simp only [s7_decides, s7_purges, s7_lights, s7_runs, s7_lacks, q1, q2, q3, c, h1, h2, f0, f1, f2, f5, if_true, if_false, l10, l20, l21, l30, l31, l32, l40, l41, l42, l43, l50, l51, l52, l53, l54, l60, l61, l62, l63, l64, l65]
    · skip
      rcases z7_has a 0 with h0 | h0
      · skip
        refine ⟨6, by simp [wq_L, c], by decide, fun n' b q1 q2 q3 f0 f1 f2 f5 => ?_⟩
        have f0 : s7_has b 0 = 0 := f0.trans (by decide)
        have f1 : s7_has b 1 = 1 := f1.trans (by decide)
        have f2 : s7_has b 2 = 1 := f2.trans (by decide)
        have f5 : s7_has b 5 = 0 := f5.trans (by decide)
        simp only [s7_decides, s7_purges, s7_lights, s7_runs, s7_lacks, q1, q2, q3, c, h1, h2, h0, f0, f1, f2, f5, if_true, if_false, l10, l20, l21, l30, l31, l32, l40, l41, l42, l43, l50, l51, l52, l53, l54, l60, l61, l62, l63, l64, l65]
      · skip
        refine ⟨7, by simp [wq_L, c], by decide, fun n' b q1 q2 q3 f0 f1 f2 f5 => ?_⟩
        have f0 : s7_has b 0 = 1 := f0.trans (by decide)
        have f1 : s7_has b 1 = 1 := f1.trans (by decide)
        have f2 : s7_has b 2 = 1 := f2.trans (by decide)
        have f5 : s7_has b 5 = 0 := f5.trans (by decide)
        simp only [s7_decides, s7_purges, s7_lights, s7_runs, s7_lacks, q1, q2, q3, c, h1, h2, h0, f0, f1, f2, f5, if_true, if_false, l10, l20, l21, l30, l31, l32, l40, l41, l42, l43, l50, l51, l52, l53, l54, l60, l61, l62, l63, l64, l65]
theorem wq_o4 (n : Nat → Int32) (a : Int32) (c : n 12 = 4) (d : ¬ (n 14 + 1) - (n 14 + 1) / n 8 * n 8 = 0) : ∃ o, wq_oP n a o := by
  have l10 : ¬ ((1 : Int32) = 0) := by decide
  have l20 : ¬ ((2 : Int32) = 0) := by decide
  have l21 : ¬ ((2 : Int32) = 1) := by decide
  have l30 : ¬ ((3 : Int32) = 0) := by decide
  have l31 : ¬ ((3 : Int32) = 1) := by decide
  have l32 : ¬ ((3 : Int32) = 2) := by decide
  have l40 : ¬ ((4 : Int32) = 0) := by decide
  have l41 : ¬ ((4 : Int32) = 1) := by decide
  have l42 : ¬ ((4 : Int32) = 2) := by decide
  have l43 : ¬ ((4 : Int32) = 3) := by decide
  have l50 : ¬ ((5 : Int32) = 0) := by decide
  have l51 : ¬ ((5 : Int32) = 1) := by decide
  have l52 : ¬ ((5 : Int32) = 2) := by decide
  have l53 : ¬ ((5 : Int32) = 3) := by decide
  have l54 : ¬ ((5 : Int32) = 4) := by decide
  have l60 : ¬ ((6 : Int32) = 0) := by decide
  have l61 : ¬ ((6 : Int32) = 1) := by decide
  have l62 : ¬ ((6 : Int32) = 2) := by decide
  have l63 : ¬ ((6 : Int32) = 3) := by decide
  have l64 : ¬ ((6 : Int32) = 4) := by decide
  have l65 : ¬ ((6 : Int32) = 5) := by decide
  have l02 : ¬ ((0 : Int32) = 2) := by decide
  have l32' : ¬ ((3 : Int32) = 2) := by decide
  rcases z7_has a 1 with h1 | h1
  · skip
    refine ⟨0, by simp [wq_L, c, d], by decide, fun n' b q1 q2 q3 f0 f1 f2 f5 => ?_⟩
    have f0 : s7_has b 0 = 0 := f0.trans (by decide)
    have f1 : s7_has b 1 = 0 := f1.trans (by decide)
    have f2 : s7_has b 2 = 0 := f2.trans (by decide)
    have f5 : s7_has b 5 = 0 := f5.trans (by decide)
    simp only [s7_decides, s7_purges, s7_lights, s7_runs, s7_lacks, q1, q2, q3, c, h1, f0, f1, f2, f5, if_true, if_false, l10, l20, l21, l30, l31, l32, l40, l41, l42, l43, l50, l51, l52, l53, l54, l60, l61, l62, l63, l64, l65, d]
  · skip
    rcases z7_has a 2 with h2 | h2
    · skip
      refine ⟨2, by simp [wq_L, c, d], by decide, fun n' b q1 q2 q3 f0 f1 f2 f5 => ?_⟩
      have f0 : s7_has b 0 = 0 := f0.trans (by decide)
      have f1 : s7_has b 1 = 1 := f1.trans (by decide)
      have f2 : s7_has b 2 = 0 := f2.trans (by decide)
      have f5 : s7_has b 5 = 0 := f5.trans (by decide)
      simp only [s7_decides, s7_purges, s7_lights, s7_runs, s7_lacks, q1, q2, q3, c, h1, h2, f0, f1, f2, f5, if_true, if_false, l10, l20, l21, l30, l31, l32, l40, l41, l42, l43, l50, l51, l52, l53, l54, l60, l61, l62, l63, l64, l65, d]
    · skip
      rcases z7_has a 0 with h0 | h0
      · skip
        refine ⟨6, by simp [wq_L, c, d], by decide, fun n' b q1 q2 q3 f0 f1 f2 f5 => ?_⟩
        have f0 : s7_has b 0 = 0 := f0.trans (by decide)
        have f1 : s7_has b 1 = 1 := f1.trans (by decide)
        have f2 : s7_has b 2 = 1 := f2.trans (by decide)
        have f5 : s7_has b 5 = 0 := f5.trans (by decide)
        simp only [s7_decides, s7_purges, s7_lights, s7_runs, s7_lacks, q1, q2, q3, c, h1, h2, h0, f0, f1, f2, f5, if_true, if_false, l10, l20, l21, l30, l31, l32, l40, l41, l42, l43, l50, l51, l52, l53, l54, l60, l61, l62, l63, l64, l65, d]
      · skip
        refine ⟨7, by simp [wq_L, c, d], by decide, fun n' b q1 q2 q3 f0 f1 f2 f5 => ?_⟩
        have f0 : s7_has b 0 = 1 := f0.trans (by decide)
        have f1 : s7_has b 1 = 1 := f1.trans (by decide)
        have f2 : s7_has b 2 = 1 := f2.trans (by decide)
        have f5 : s7_has b 5 = 0 := f5.trans (by decide)
        simp only [s7_decides, s7_purges, s7_lights, s7_runs, s7_lacks, q1, q2, q3, c, h1, h2, h0, f0, f1, f2, f5, if_true, if_false, l10, l20, l21, l30, l31, l32, l40, l41, l42, l43, l50, l51, l52, l53, l54, l60, l61, l62, l63, l64, l65, d]
theorem wq_o4d (n : Nat → Int32) (a : Int32) (c : n 12 = 4) (d : (n 14 + 1) - (n 14 + 1) / n 8 * n 8 = 0) : ∃ o, wq_oP n a o := by
  have l10 : ¬ ((1 : Int32) = 0) := by decide
  have l20 : ¬ ((2 : Int32) = 0) := by decide
  have l21 : ¬ ((2 : Int32) = 1) := by decide
  have l30 : ¬ ((3 : Int32) = 0) := by decide
  have l31 : ¬ ((3 : Int32) = 1) := by decide
  have l32 : ¬ ((3 : Int32) = 2) := by decide
  have l40 : ¬ ((4 : Int32) = 0) := by decide
  have l41 : ¬ ((4 : Int32) = 1) := by decide
  have l42 : ¬ ((4 : Int32) = 2) := by decide
  have l43 : ¬ ((4 : Int32) = 3) := by decide
  have l50 : ¬ ((5 : Int32) = 0) := by decide
  have l51 : ¬ ((5 : Int32) = 1) := by decide
  have l52 : ¬ ((5 : Int32) = 2) := by decide
  have l53 : ¬ ((5 : Int32) = 3) := by decide
  have l54 : ¬ ((5 : Int32) = 4) := by decide
  have l60 : ¬ ((6 : Int32) = 0) := by decide
  have l61 : ¬ ((6 : Int32) = 1) := by decide
  have l62 : ¬ ((6 : Int32) = 2) := by decide
  have l63 : ¬ ((6 : Int32) = 3) := by decide
  have l64 : ¬ ((6 : Int32) = 4) := by decide
  have l65 : ¬ ((6 : Int32) = 5) := by decide
  have l02 : ¬ ((0 : Int32) = 2) := by decide
  have l32' : ¬ ((3 : Int32) = 2) := by decide
  rcases z7_has a 1 with h1 | h1
  · skip
    refine ⟨0, by simp [wq_L, c, d], by decide, fun n' b q1 q2 q3 f0 f1 f2 f5 => ?_⟩
    have f0 : s7_has b 0 = 0 := f0.trans (by decide)
    have f1 : s7_has b 1 = 0 := f1.trans (by decide)
    have f2 : s7_has b 2 = 0 := f2.trans (by decide)
    have f5 : s7_has b 5 = 0 := f5.trans (by decide)
    simp only [s7_decides, s7_purges, s7_lights, s7_runs, s7_lacks, q1, q2, q3, c, h1, f0, f1, f2, f5, if_true, if_false, l10, l20, l21, l30, l31, l32, l40, l41, l42, l43, l50, l51, l52, l53, l54, l60, l61, l62, l63, l64, l65, d]
  · skip
    rcases z7_has a 2 with h2 | h2
    · skip
      refine ⟨2, by simp [wq_L, c, d], by decide, fun n' b q1 q2 q3 f0 f1 f2 f5 => ?_⟩
      have f0 : s7_has b 0 = 0 := f0.trans (by decide)
      have f1 : s7_has b 1 = 1 := f1.trans (by decide)
      have f2 : s7_has b 2 = 0 := f2.trans (by decide)
      have f5 : s7_has b 5 = 0 := f5.trans (by decide)
      simp only [s7_decides, s7_purges, s7_lights, s7_runs, s7_lacks, q1, q2, q3, c, h1, h2, f0, f1, f2, f5, if_true, if_false, l10, l20, l21, l30, l31, l32, l40, l41, l42, l43, l50, l51, l52, l53, l54, l60, l61, l62, l63, l64, l65, d]
    · skip
      rcases z7_has a 5 with h5 | h5
      · skip
        refine ⟨6, by simp [wq_L, c, d], by decide, fun n' b q1 q2 q3 f0 f1 f2 f5 => ?_⟩
        have f0 : s7_has b 0 = 0 := f0.trans (by decide)
        have f1 : s7_has b 1 = 1 := f1.trans (by decide)
        have f2 : s7_has b 2 = 1 := f2.trans (by decide)
        have f5 : s7_has b 5 = 0 := f5.trans (by decide)
        simp only [s7_decides, s7_purges, s7_lights, s7_runs, s7_lacks, q1, q2, q3, c, h1, h2, h5, f0, f1, f2, f5, if_true, if_false, l10, l20, l21, l30, l31, l32, l40, l41, l42, l43, l50, l51, l52, l53, l54, l60, l61, l62, l63, l64, l65, d]
      · skip
        rcases z7_has a 0 with h0 | h0
        · skip
          refine ⟨38, by simp [wq_L, c, d], by decide, fun n' b q1 q2 q3 f0 f1 f2 f5 => ?_⟩
          have f0 : s7_has b 0 = 0 := f0.trans (by decide)
          have f1 : s7_has b 1 = 1 := f1.trans (by decide)
          have f2 : s7_has b 2 = 1 := f2.trans (by decide)
          have f5 : s7_has b 5 = 1 := f5.trans (by decide)
          simp only [s7_decides, s7_purges, s7_lights, s7_runs, s7_lacks, q1, q2, q3, c, h1, h2, h5, h0, f0, f1, f2, f5, if_true, if_false, l10, l20, l21, l30, l31, l32, l40, l41, l42, l43, l50, l51, l52, l53, l54, l60, l61, l62, l63, l64, l65, d]
        · skip
          refine ⟨39, by simp [wq_L, c, d], by decide, fun n' b q1 q2 q3 f0 f1 f2 f5 => ?_⟩
          have f0 : s7_has b 0 = 1 := f0.trans (by decide)
          have f1 : s7_has b 1 = 1 := f1.trans (by decide)
          have f2 : s7_has b 2 = 1 := f2.trans (by decide)
          have f5 : s7_has b 5 = 1 := f5.trans (by decide)
          simp only [s7_decides, s7_purges, s7_lights, s7_runs, s7_lacks, q1, q2, q3, c, h1, h2, h5, h0, f0, f1, f2, f5, if_true, if_false, l10, l20, l21, l30, l31, l32, l40, l41, l42, l43, l50, l51, l52, l53, l54, l60, l61, l62, l63, l64, l65, d]
theorem wq_o9 (n : Nat → Int32) (a : Int32) (c0 : ¬ n 12 = 0) (c1 : ¬ n 12 = 1) (c2 : ¬ n 12 = 2) (c3 : ¬ n 12 = 3) (c4 : ¬ n 12 = 4) : ∃ o, wq_oP n a o := by
  refine ⟨0, by simp [wq_L, c0, c1, c2, c3, c4], by decide, fun n' b q1 q2 q3 f0 f1 f2 f5 => ?_⟩
  simp only [s7_decides, q1, c0, c1, c2, c3, c4, if_false]
theorem wq_o (n : Nat → Int32) (a : Int32) : ∃ o, wq_oP n a o := by
  by_cases c0 : n 12 = 0
  · exact wq_o0 n a c0
  by_cases c1 : n 12 = 1
  · exact wq_o1 n a c1
  by_cases c2 : n 12 = 2
  · exact wq_o2 n a c2
  by_cases c3 : n 12 = 3
  · exact wq_o3 n a c3
  by_cases c4 : n 12 = 4
  · by_cases d : (n 14 + 1) - (n 14 + 1) / n 8 * n 8 = 0
    · exact wq_o4d n a c4 d
    · exact wq_o4 n a c4 d
  exact wq_o9 n a c0 c1 c2 c3 c4
theorem wq_rep (n : Nat → Int32) (a : Int32) : ∃ e ∈ ([0, 8, 16, 24] : List Int32), ∃ o ∈ wq_L n, s7_plays n a = s7_plays n (e + o) := by
  obtain ⟨e, he, h⟩ := wq_e a
  obtain ⟨o, ho, ho', h'⟩ := wq_o n a
  obtain ⟨g3, g4, g0, g1, g2, g5⟩ := h o ho'
  exact ⟨e, he, o, ho, wq_playsA n g3.symm g4.symm (fun n' q1 q2 q3 => h' n' (e + o) q1 q2 q3 g0 g1 g2 g5)⟩
section WQ
variable {m0 : Nat → Int32} {a1 : Int32} {nP nO n9 : Nat} {x : Nat → Int32} {w th : Nat → Int64} {t more k told : Int32}
theorem wq_O0 (h : wq_O m0 a1 0 x w t) : False := cw_cnt0 h.2.2.1
theorem wq_M0 (h : wq_M m0 a1 nO 0 x w th t more k) : False := by
  obtain ⟨-, -, N, M, -, -, -, -, h, -⟩ := h
  exact cw_cnt0 h
theorem wq_I0 (h : wq_I m0 a1 nP nO 0 x w th t more k told) : False := cw_cnt0 h.2.2.2
theorem wq_C0 (h : wq_C m0 a1 nO 0 x t k) : False := by
  obtain ⟨-, -, M, -, -, h⟩ := h
  exact cw_cnt0 h
theorem wq_nb0 {U : List Int64} : wq_nb th 0 U := ⟨fun i j h => absurd h (Nat.not_lt_zero _), fun i h => absurd h (Nat.not_lt_zero _)⟩
theorem wq_E {mm : Nat → Int32} (hck : ¬ mm 8 = 0) (hf : 1 ≤ a1.toInt ∧ a1.toInt ≤ 3) : wq_O mm a1 5 (upd (upd mm 33 0) 32 1) w 1 := by
  have h1 : (1 : Int32).toInt = 1 := by decide
  refine ⟨hf.2, by rw [h1]; omega, ⟨by rw [h1]; omega, by rw [h1]; omega, by rw [h1]; omega, by omega⟩, fun k hk => ?_, 1, rfl, fun _ => Nat.le_refl 1, fun h => absurd h (by decide), by omega⟩
  have h2 : ¬ k = 32 := by omega
  have h3 : ¬ k = 33 := by omega
  simp [upd, h2, h3]
theorem wq_OM (h : wq_O m0 a1 (n9 + 1) x w t) (z : ¬ a1 < t) : wq_M m0 a1 n9 513 x w th t 0 0 := by
  obtain ⟨h1, h2, h3, h4, N, h5, h6⟩ := h
  have h7 := cw_le2 z
  have h0 : (0 : Int32).toInt = 0 := by decide
  have h8 := h6.2.2
  exact ⟨⟨h1, h2, h7, h3⟩, h4, N, 0, h5, h6, rfl, wq_nb0, ⟨by rw [h0]; omega, by rw [h0]; omega, by rw [h0]; omega, by omega⟩, fun _ => rfl⟩
theorem wq_MI (h : wq_M m0 a1 nO (n9 + 1) x w th t more k) (z : ¬ x 32 ≤ k) : wq_I m0 a1 nO n9 65 x w th t more k 0 := by
  obtain ⟨h1, h2, N, M, h3, h4, h5, h6, h7, h8⟩ := h
  have h0 : (0 : Int32).toInt = 0 := by decide
  have h9 := cw_lt1 z
  have h10 := h4.2.2
  rw [h3, nI_toInt (by omega)] at h9
  exact ⟨h1, h2, ⟨N, M, h3, h4, h5, h6, h7, h9, h8⟩, ⟨by rw [h0]; omega, by rw [h0]; omega, by rw [h0]; omega, by omega⟩⟩
theorem wq_IM (h : wq_I m0 a1 nP nO (n9 + 1) x w th t more k told) (z : (64 : Int32) ≤ told) : wq_M m0 a1 nP nO x w th t more (k + 1) := by
  obtain ⟨h1, h2, ⟨N, M, h3, h4, h5, h6, h7, h8, h9⟩, -⟩ := h
  exact ⟨h1, h2, N, M, h3, h4, h5, h6, cw_cntS h7 h8, h9⟩
theorem wq_lenL (n : Nat → Int32) : (wq_L n).length ≤ 5 := by
  simp only [wq_L]
  (repeat' split) <;> decide
theorem wq_lenO (m0 : Nat → Int32) (y : Int64) : (wq_out m0 y).length ≤ 20 := by
  have h := wq_lenL (s7_unpacks m0 y)
  simp only [wq_out, List.flatMap_cons, List.flatMap_nil, List.length_append, List.length_map, List.length_nil]
  omega
theorem wq_lenU (m0 : Nat → Int32) (w : Nat → Int64) (N : Nat) : (wq_U m0 w N).length ≤ 20 * N := by
  induction N with
  | zero => simp [wq_U]
  | succ N ih =>
    have h := wq_lenO m0 (w N)
    simp only [wq_U] at ih ⊢
    rw [List.range_succ, List.flatMap_append, List.length_append]
    simp only [List.flatMap_cons, List.flatMap_nil, List.append_nil]
    omega
theorem wq_len {U : List Int64} {n : Nat} (h : wq_nb th n U) : n ≤ U.length := by
  induction n generalizing U with
  | zero => exact Nat.zero_le _
  | succ n ih =>
    have hm := h.2 n (Nat.lt_succ_self n)
    have h' : wq_nb th n (U.erase (th n)) := ⟨fun i j hi hj e => h.1 i j (by omega) (by omega) e, fun i hi => (List.mem_erase_of_ne (fun e => absurd (h.1 i n (by omega) (by omega) e) (by omega))).mpr (h.2 i (by omega))⟩
    have h1 := ih h'
    rw [List.length_erase_of_mem hm] at h1
    have hp : 0 < U.length := List.length_pos_of_mem hm
    omega
theorem wq_M400 {N M : Nat} (h1 : a1.toInt ≤ 3) (h2 : 1 ≤ t.toInt) (h3 : t.toInt ≤ a1.toInt) (hb : wq_bd t N) (hn : wq_nb th M (wq_U m0 w N)) (h0 : t = a1 → M = 0) : (t = 1 → M ≤ 20) ∧ M ≤ 400 := by
  have e1 := wq_len hn
  have e2 := wq_lenU m0 w N
  have hI1 : (1 : Int32).toInt = 1 := by decide
  have hI2 : (2 : Int32).toInt = 2 := by decide
  refine ⟨fun ht => by have := hb.1 ht; omega, ?_⟩
  by_cases e : t = a1
  · rw [h0 e]; omega
  · have e3 : t.toInt ≠ a1.toInt := fun q => e (Int32.toInt_inj.mp q)
    by_cases e4 : t = 1
    · have := hb.1 e4; omega
    · have e5 : t.toInt ≠ 1 := fun q => e4 (Int32.toInt_inj.mp (q.trans hI1.symm))
      have e6 : t = 2 := Int32.toInt_inj.mp (by rw [hI2]; omega)
      have := hb.2.1 e6
      omega
theorem wq_mem (hg : wq_ag m0 x) (y : Int64) (a : Int32) : s7_packs (s7_plays (s7_unpacks x y) a) ∈ wq_out m0 y := by
  rw [g7_packs (g7_plays (g7_unpacks hg y) a)]
  obtain ⟨e, he, o, ho, q⟩ := wq_rep (s7_unpacks m0 y) a
  rw [q]
  exact List.mem_flatMap.mpr ⟨e, he, List.mem_map.mpr ⟨o, ho, rfl⟩⟩
theorem wq_MC (h : wq_M m0 a1 nO (n9 + 1) x w th t more k) (z : x 32 ≤ k) : wq_C m0 a1 nO 513 (upd x 32 more) t 0 := by
  obtain ⟨⟨h1, h2, h3, h4⟩, h5, N, M, h6, h7, h8, h9, h10, h11⟩ := h
  have hq := wq_M400 h1 h2 h3 h7 h9 h11
  have h0 : (0 : Int32).toInt = 0 := by decide
  have hI1 : (1 : Int32).toInt = 1 := by decide
  have hI2 : (2 : Int32).toInt = 2 := by decide
  have hi := cw_inc (i := t) (by omega) (by omega)
  refine ⟨⟨h1, h2, h3, h4⟩, fun k hk => ?_, M, by simp [upd, h8], ⟨fun e => ?_, fun e => ?_, hq.2⟩, ⟨by rw [h0]; omega, by rw [h0]; omega, by rw [h0]; omega, by omega⟩⟩
  · have h12 : ¬ k = 32 := by omega
    simp [upd, h12, h5 k hk]
  · have e2 : (t + 1).toInt = 1 := by rw [e]; exact hI1
    omega
  · have e2 : (t + 1).toInt = 2 := by rw [e]; exact hI2
    exact hq.1 (Int32.toInt_inj.mp (by rw [hI1]; omega))
theorem wq_CC (h : wq_C m0 a1 nO (n9 + 1) x t k) (z : ¬ x 32 ≤ k) : wq_C m0 a1 nO n9 x t (k + 1) := by
  obtain ⟨h1, h2, M, h3, h4, h5⟩ := h
  have h9 := cw_lt1 z
  have h10 := h4.2.2
  rw [h3, nI_toInt (by omega)] at h9
  exact ⟨h1, h2, M, h3, h4, cw_cntS h5 h9⟩
theorem wq_CO (h : wq_C m0 a1 nO (n9 + 1) x t k) (z : x 32 ≤ k) : wq_O m0 a1 nO x w (t + 1) := by
  obtain ⟨⟨h1, h2, h3, h4⟩, h5, M, h6, h7, h8⟩ := h
  have h9 := cw_inc (i := t) (by omega) (by omega)
  exact ⟨h1, by omega, cw_cntS h4 (by omega), h5, M, h6, h7⟩
theorem wq_agp (hg : wq_ag m0 x) (y : Int64) (a v : Int32) : wq_ag m0 (upd (s7_plays (s7_unpacks x y) a) 33 v) := by
  intro k hk
  have h0 : ¬ k = 33 := by omega
  have h1 : ¬ k = 12 := by omega
  have h2 : ¬ k = 13 := by omega
  have h3 : ¬ k = 14 := by omega
  have h4 : ¬ k = 15 := by omega
  have h5 : ¬ k = 16 := by omega
  have h6 : ¬ k = 17 := by omega
  have h7 : ¬ k = 18 := by omega
  have h8 : ¬ k = 19 := by omega
  have h9 : ¬ k = 20 := by omega
  rw [cw_updn _ _ h0, f7_plays _ _ k (Or.inl hk)]
  simp [s7_unpacks, upd, h1, h2, h3, h4, h5, h6, h7, h8, h9, hg k hk]
theorem wq_32p (y : Int64) (a v : Int32) : upd (s7_plays (s7_unpacks x y) a) 33 v 32 = x 32 := by
  rw [cw_updn _ _ (by decide), f7_plays _ _ 32 (Or.inr (by decide))]
  simp [s7_unpacks, upd]
theorem wq_cmp (a b : Int64) : lg_cmp a b = 0 ↔ a = b := lg_cmp_eq a b
theorem wq_addsL {mm : Nat → Int32} {nt : Nat → Int64} {M : Nat} (hM : M < 512) (it : Int64) : ∀ (n j : Nat) (l4 : Int32), M < j + n → j ≤ M → (l4 = 0 ∨ l4 = 1) → (l4 = 0 → ∃ i, i < M ∧ nt i = it) → (l4 = 1 → ∀ i, i < j → nt i ≠ it) →
    (s7_adds_L mm nt (nI M) n it l4 (nI j) = (nI M, nt) ∧ ∃ i, i < M ∧ nt i = it) ∨ (s7_adds_L mm nt (nI M) n it l4 (nI j) = (nI M + 1, vp_updL nt M it) ∧ ∀ i, i < M → nt i ≠ it) := by
  intro n
  induction n with
  | zero => intro j l4 h1 h2; omega
  | succ n ih =>
    intro j l4 h1 h2 h3 h4 h5
    have hle : nI M ≤ nI j ↔ M ≤ j := nI_leI (by omega) (by omega)
    rcases h3 with rfl | rfl
    · refine Or.inl ⟨?_, h4 rfl⟩
      by_cases c : nI M ≤ nI j
      · simp [s7_adds_L, c]
      · simp [s7_adds_L, c]
    · by_cases c : nI M ≤ nI j
      · have hj : j = M := by have := hle.mp c; omega
        refine Or.inr ⟨?_, by rw [← hj]; exact h5 rfl⟩
        simp [s7_adds_L, c, nI_clamp (show M < 2 ^ 31 by omega)]
      · have hj : j < M := by
          rcases Nat.lt_or_ge j M with q | q
          · exact q
          · exact absurd (hle.mpr q) c
        have hstep : s7_adds_L mm nt (nI M) (n + 1) it 1 (nI j) = s7_adds_L mm nt (nI M) n it (if nt j = it then 0 else 1) (nI (j + 1)) := by
          have h10 : ¬ (1 : Int32) = 0 := by decide
          have hc : (nI j).toNatClampNeg = j := nI_clamp (by omega)
          simp only [s7_adds_L, if_neg c, if_neg h10, hc, wq_cmp, nI_1]
        rw [hstep]
        by_cases e : nt j = it
        · rw [if_pos e]
          exact ih (j + 1) 0 (by omega) (by omega) (Or.inl rfl) (fun _ => ⟨j, hj, e⟩) (fun q => absurd q (by decide))
        · rw [if_neg e]
          refine ih (j + 1) 1 (by omega) (by omega) (Or.inr rfl) (fun q => absurd q (by decide)) (fun _ i hi => ?_)
          rcases Nat.lt_or_ge i j with q | q
          · exact h5 rfl i q
          · have : i = j := by omega
            rw [this]; exact e
theorem wq_adds {mm : Nat → Int32} {M : Nat} {U : List Int64} (hM : M < 512) (hn : wq_nb th M U) (hU : s7_packs mm ∈ U) : ∃ M' : Nat, (s7_adds mm th (nI M)).1 = nI M' ∧ wq_nb (s7_adds mm th (nI M)).2 M' U := by
  have h := wq_addsL (mm := mm) (nt := th) hM (s7_packs mm) 513 0 1 (by omega) (Nat.zero_le _) (Or.inr rfl) (fun q => absurd q (by decide)) (fun _ i hi => absurd hi (Nat.not_lt_zero _))
  have e : s7_adds mm th (nI M) = s7_adds_L mm th (nI M) 513 (s7_packs mm) 1 (nI 0) := rfl
  rw [e]
  rcases h with ⟨h1, -⟩ | ⟨h1, h2⟩
  · exact ⟨M, by rw [h1], by rw [h1]; exact hn⟩
  · refine ⟨M + 1, by rw [h1]; exact nI_1 M, ?_⟩
    rw [h1]
    refine ⟨fun i j hi hj q => ?_, fun i hi => ?_⟩
    · by_cases ei : i = M
      · by_cases ej : j = M
        · omega
        · exfalso
          rw [ei] at q
          simp only [vp_updL, if_pos, if_neg ej] at q
          exact h2 j (by omega) q.symm
      · by_cases ej : j = M
        · exfalso
          rw [ej] at q
          simp only [vp_updL, if_pos, if_neg ei] at q
          exact h2 i (by omega) q
        · simp only [vp_updL, if_neg ei, if_neg ej] at q
          exact hn.1 i j (by omega) (by omega) q
    · by_cases ei : i = M
      · simp only [vp_updL, ei, if_pos]; exact hU
      · simp only [vp_updL, if_neg ei]; exact hn.2 i (by omega)
theorem wq_inU {N j : Nat} {y : Int64} (h : j < N) (hy : y ∈ wq_out m0 (w j)) : y ∈ wq_U m0 w N :=
  List.mem_flatMap.mpr ⟨j, List.mem_range.mpr h, hy⟩
theorem wq_packs33 (n : Nat → Int32) (v : Int32) : s7_packs (upd n 33 v) = s7_packs n := by simp [s7_packs, upd]
theorem wq_II {v : Int32} (h : wq_I m0 a1 nP nO (n9 + 1) x w th t more k told) (z : ¬ (64 : Int32) ≤ told) :
    wq_I m0 a1 nP nO n9 (upd (s7_plays (s7_unpacks x (w k.toNatClampNeg)) told) 33 v) w (if a1 ≤ t then th else (s7_adds (upd (s7_plays (s7_unpacks x (w k.toNatClampNeg)) told) 33 v) th more).2) t (if a1 ≤ t then more else (s7_adds (upd (s7_plays (s7_unpacks x (w k.toNatClampNeg)) told) 33 v) th more).1) k (told + 1) := by
  obtain ⟨⟨h1, h2, h3, h4⟩, h5, ⟨N, M, h6, h7, h8, h9, h10, h11, h12⟩, h13⟩ := h
  have hq := wq_M400 h1 h2 h3 h7 h9 h12
  have hkn : ∃ j : Nat, j < N ∧ k.toNatClampNeg = j := by
    have hn : ¬ k < 0 := by
      intro h
      rw [Int32.lt_iff_toInt_lt] at h
      have h9 : (0 : Int32).toInt = 0 := by decide
      have := h10.1
      omega
    obtain ⟨j, hj, rfl⟩ := nI_of hn
    rw [nI_toInt hj] at h11
    exact ⟨j, by omega, nI_clamp hj⟩
  obtain ⟨j, hj, hk⟩ := hkn
  have hs := cw_cntS h13 (by have h8 := cw_lt1 z; have h9 : (64 : Int32).toInt = 64 := (by decide); omega)
  refine ⟨⟨h1, h2, h3, h4⟩, wq_agp h5 _ _ _, ?_, hs⟩
  by_cases c : a1 ≤ t
  · simp only [if_pos c]
    exact ⟨N, M, by rw [wq_32p]; exact h6, h7, h8, h9, h10, h11, h12⟩
  · simp only [if_neg c]
    have hU : s7_packs (upd (s7_plays (s7_unpacks x (w k.toNatClampNeg)) told) 33 v) ∈ wq_U m0 w N := by
      rw [wq_packs33, hk]
      exact wq_inU hj (wq_mem h5 _ _)
    obtain ⟨M', e1, e2⟩ := wq_adds (show M < 512 by omega) h9 hU
    rw [h8]
    have hlt := cw_lt1 c
    exact ⟨N, M', by rw [wq_32p]; exact h6, h7, e1, e2, h10, h11, fun e => absurd (show a1 ≤ t by rw [e]; exact Int32.le_refl _) c⟩
theorem wq_i66 (h : wq_I m0 a1 nP nO (n9 + 1) x w th t more k told) : vp_in k 512 := by
  obtain ⟨-, -, ⟨N, M, h3, h4, h5, h6, h7, h8, h9⟩, -⟩ := h
  rw [vp_in_iff]
  have h10 := h4.2.2
  exact ⟨h7.1, by omega⟩
theorem wq_i89 (hck : ¬ m0 8 = 0) (h : wq_I m0 a1 nP nO (n9 + 1) x w th t more k told) {y : Int64} : ¬ s7_unpacks x y 8 = 0 := by
  have h8 := h.2.1 8 (by decide)
  simp [s7_unpacks, upd, h8, hck]
theorem wq_i145 (h : wq_I m0 a1 nP nO (n9 + 1) x w th t more k told) (z : ¬ a1 ≤ t) : vp_in more 512 := by
  obtain ⟨⟨h1, h2, h3, h4⟩, h5, ⟨N, M, h6, h7, h8, h9, h10, h11, h12⟩, h13⟩ := h
  have hq := wq_M400 h1 h2 h3 h7 h9 h12
  rw [h8]
  exact vp_in_nI (by omega) (by decide)
theorem wq_i197 (h : wq_C m0 a1 nO (n9 + 1) x t k) (z : ¬ x 32 ≤ k) : vp_in k 512 := by
  obtain ⟨h1, h2, M, h3, h4, h5⟩ := h
  have h9 := cw_lt1 z
  have h10 := h4.2.2
  rw [h3, nI_toInt (by omega)] at h9
  rw [vp_in_iff]
  exact ⟨h5.1, by omega⟩
end WQ

def s7_walks_I (K : (Nat → Int32) → (Nat → Int64) → (Nat → Int64) → Int64 → Int32 → Int32 → Int32 → Int32 → Int32 × (Nat → Int32) × (Nat → Int64) × (Nat → Int64)) (mm : Nat → Int32) (nw : Nat → Int64) (nt : Nat → Int64) (a1 : Int32) : Nat → (Nat → Int32) → (Nat → Int64) → (Nat → Int64) → Int64 → Int32 → Int32 → Int32 → Int32 → Int32 → Int32 × (Nat → Int32) × (Nat → Int64) × (Nat → Int64)
  | 0, _, _, _, _, _, _, _, _, _ => (0, (fun _ => 0), (fun _ => 0), (fun _ => 0))
  | n9 + 1, l_xm, l_jw, l_jt, l_2, l_4, l_5, l_6, l_7, l_8 => (if 64 ≤ l_8 then (K l_xm l_jw l_jt l_2 l_4 l_5 l_6 (l_7 + 1)) else (let v34 : Nat → Int32 := (s7_unpacks l_xm (l_jw l_7.toNatClampNeg)); (let w37 : Int32 := (if (v34 12) = 6 then 1 else 0); (let v40 : Nat → Int32 := (s7_plays v34 l_8); (let w44 : Int32 := (if (v40 12) = 6 then (if w37 = 0 then ((1 : Int32) <<< ((v40 13) &&& 31)) else 0) else 0); (let w50 : Int32 := (if a1 ≤ l_5 then l_6 else ((s7_adds (upd v40 33 ((v40 33) ||| w44)) l_jt l_6).1)); (let w51 : Nat → Int64 := (if a1 ≤ l_5 then l_jt else ((s7_adds (upd v40 33 ((v40 33) ||| w44)) l_jt l_6).2)); (s7_walks_I K mm nw nt a1 n9 (upd v40 33 ((v40 33) ||| w44)) l_jw w51 l_2 (l_4 ||| ((1 : Int32) <<< ((v40 12) &&& 31))) l_5 w50 l_7 (l_8 + 1)))))))))
def s7_walks_C (K : (Nat → Int32) → (Nat → Int64) → (Nat → Int64) → Int64 → Int32 → Int32 → Int32 × (Nat → Int32) × (Nat → Int64) × (Nat → Int64)) (mm : Nat → Int32) (nw : Nat → Int64) (nt : Nat → Int64) (a1 : Int32) : Nat → (Nat → Int32) → (Nat → Int64) → (Nat → Int64) → Int64 → Int32 → Int32 → Int32 → Int32 × (Nat → Int32) × (Nat → Int64) × (Nat → Int64)
  | 0, _, _, _, _, _, _, _ => (0, (fun _ => 0), (fun _ => 0), (fun _ => 0))
  | n9 + 1, l_xm, l_jw, l_jt, l_2, l_4, l_5, l_7 => (if (l_xm 32) ≤ l_7 then (K l_xm l_jw l_jt l_2 l_4 (l_5 + 1)) else (s7_walks_C K mm nw nt a1 n9 l_xm (vp_updL l_jw l_7.toNatClampNeg (l_jt l_7.toNatClampNeg)) l_jt l_2 l_4 l_5 (l_7 + 1)))
def s7_walks_M (K : (Nat → Int32) → (Nat → Int64) → (Nat → Int64) → Int64 → Int32 → Int32 → Int32 × (Nat → Int32) × (Nat → Int64) × (Nat → Int64)) (mm : Nat → Int32) (nw : Nat → Int64) (nt : Nat → Int64) (a1 : Int32) : Nat → (Nat → Int32) → (Nat → Int64) → (Nat → Int64) → Int64 → Int32 → Int32 → Int32 → Int32 → Int32 × (Nat → Int32) × (Nat → Int64) × (Nat → Int64)
  | 0, _, _, _, _, _, _, _, _ => (0, (fun _ => 0), (fun _ => 0), (fun _ => 0))
  | n9 + 1, l_xm, l_jw, l_jt, l_2, l_4, l_5, l_6, l_7 => (if (l_xm 32) ≤ l_7 then (s7_walks_C K mm nw nt a1 513 (upd l_xm 32 l_6) l_jw l_jt l_2 l_4 l_5 0) else (s7_walks_I (fun x0 x1 x2 x3 x4 x5 x6 x7 => s7_walks_M K mm nw nt a1 n9 x0 x1 x2 x3 x4 x5 x6 x7) mm nw nt a1 65 l_xm l_jw l_jt l_2 l_4 l_5 l_6 l_7 0))
def s7_walks_O (mm : Nat → Int32) (nw : Nat → Int64) (nt : Nat → Int64) (a1 : Int32) : Nat → (Nat → Int32) → (Nat → Int64) → (Nat → Int64) → Int64 → Int32 → Int32 → Int32 × (Nat → Int32) × (Nat → Int64) × (Nat → Int64)
  | 0, _, _, _, _, _, _ => (0, (fun _ => 0), (fun _ => 0), (fun _ => 0))
  | n9 + 1, l_xm, l_jw, l_jt, l_2, l_4, l_5 => (if a1 < l_5 then (let v7 : Nat → Int32 := (s7_unpacks l_xm l_2); (l_4, v7, l_jw, l_jt)) else (s7_walks_M (fun x0 x1 x2 x3 x4 x5 => s7_walks_O mm nw nt a1 n9 x0 x1 x2 x3 x4 x5) mm nw nt a1 513 l_xm l_jw l_jt l_2 l_4 l_5 0 0))
def s7_walks (mm : Nat → Int32) (nw : Nat → Int64) (nt : Nat → Int64) (a1 : Int32) : Int32 × (Nat → Int32) × (Nat → Int64) × (Nat → Int64) := (let r2 : Int64 := (s7_packs mm); (s7_walks_O mm nw nt a1 5 (upd (upd mm 33 0) 32 1) (vp_updL nw ((0 : Int32).toNatClampNeg) r2) nt r2 0 1))


set_option maxHeartbeats 4000000 in
set_option maxRecDepth 100000 in
theorem k7_walks (l : Launch) (D : va_G) (cI cJ : ClassId) (xm jw jt : Nat) (xm_25 xm_26 xm_27 xm_29 : Value) (mm : Nat → Int32) (nw : Nat → Int64) (nt : Nat → Int64) (a1 : Int32) (hck : ¬ mm 8 = 0) (hf : 1 ≤ a1.toInt ∧ a1.toInt ≤ 3) : cw_Mi l yX7_walks wsX7_walks (cw_rm 6) D [(cI, .int), (cJ, .long)] [.ref xm, .int a1] [(xm, c7 xm_25 xm_26 xm_27 xm_29 (.ref jw) (.ref jt) mm), (jw, .inl (cJ, 512, .inr (.inl nw))), (jt, .inl (cJ, 512, .inr (.inl nt)))] 0 0 (fun r (_ : Unit) => r = (s7_walks mm nw nt a1).1) (fun _ : Unit => [(xm, c7 xm_25 xm_26 xm_27 xm_29 (.ref jw) (.ref jt) ((s7_walks mm nw nt a1).2.1)), (jw, .inl (cJ, 512, .inr (.inl ((s7_walks mm nw nt a1).2.2.1)))), (jt, .inl (cJ, 512, .inr (.inl ((s7_walks mm nw nt a1).2.2.2))))]) := by
  refine cw_ofi (cc := cX7_walks) (maxL := 10) (ret := (some .int)) (by decide) rfl (Nat.le_of_ble_eq_true rfl) rfl ?_
  intro p e s m args below meth c A ls Q hin0 hret
  obtain ⟨hx, hb, hr, hml, hts, hown, hlocks, hin, hP, hK, hD, hN, hA, hl⟩ := hin0
  have hS : va_S A s.heap s.heap [] := va_S.rf
  have hl : lv_has ls 10 [(0, .ref xm), (1, .int a1)] := hl
  have lf191 := hts (.fieldLink RX7 191 "BurnerlineModel" "reasons" "I") (by decide +kernel)
  have i7 : ∀ w ∈ wsX70, w ∈ wsX7_walks := by decide +kernel
  have lf56 := hts (.fieldLink RX7 56 "BurnerlineModel" "now" "[J") (by decide +kernel)
  have lf194 := hts (.fieldLink RX7 194 "BurnerlineModel" "states" "I") (by decide +kernel)
  have lf77 := hts (.fieldLink RX7 77 "BurnerlineModel" "state" "I") (by decide +kernel)
  have lf100 := hts (.fieldLink RX7 100 "BurnerlineModel" "why" "I") (by decide +kernel)
  have lf60 := hts (.fieldLink RX7 60 "BurnerlineModel" "then" "[J") (by decide +kernel)
  have LOOPI : ∀ (K : (Nat → Int32) → (Nat → Int64) → (Nat → Int64) → Int64 → Int32 → Int32 → Int32 → Int32 → Int32 × (Nat → Int32) × (Nat → Int64) × (Nat → Int64)) (nO nP : Nat) (n9 : Nat) (l_xm : Nat → Int32) (l_jw : Nat → Int64) (l_jt : Nat → Int64) (l_2 : Int64) (l_4 : Int32) (l_5 : Int32) (l_6 : Int32) (l_7 : Int32) (l_8 : Int32), (∀ (l_xm : Nat → Int32) (l_jw : Nat → Int64) (l_jt : Nat → Int64) (l_2 : Int64) (l_4 : Int32) (l_5 : Int32) (l_6 : Int32) (l_7 : Int32), wq_M mm a1 nP nO l_xm l_jw l_jt l_5 l_6 l_7 → K l_xm l_jw l_jt l_2 l_4 l_5 l_6 l_7 = (s7_walks mm nw nt a1) → ∀ (H : Heap) (locs : List Loc), va_P D vwCl [(xm, c7 xm_25 xm_26 xm_27 xm_29 (.ref jw) (.ref jt) l_xm), (jw, .inl (cJ, 512, .inr (.inl l_jw))), (jt, .inl (cJ, 512, .inr (.inl l_jt)))] H → va_D A [(xm, c7 xm_25 xm_26 xm_27 xm_29 (.ref jw) (.ref jt) l_xm), (jw, .inl (cJ, 512, .inr (.inl l_jw))), (jt, .inl (cJ, 512, .inr (.inl l_jt)))] → va_S A s.heap H locs → ∀ (ls : Array Slot), lv_has ls 10 [(0, .ref xm), (1, .int a1), (2, .long l_2), (4, .int l_4), (5, .int l_5), (6, .int l_6), (7, .int l_7)] → W p l e (cw_rm 6) s m args below meth c H locs 0 0 (Q) (F0 m 40 ls [])) → wq_I mm a1 nP nO n9 l_xm l_jw l_jt l_5 l_6 l_7 l_8 → s7_walks_I K mm nw nt a1 n9 l_xm l_jw l_jt l_2 l_4 l_5 l_6 l_7 l_8 = (s7_walks mm nw nt a1) → ∀ (H : Heap) (locs : List Loc), va_P D vwCl [(xm, c7 xm_25 xm_26 xm_27 xm_29 (.ref jw) (.ref jt) l_xm), (jw, .inl (cJ, 512, .inr (.inl l_jw))), (jt, .inl (cJ, 512, .inr (.inl l_jt)))] H → va_D A [(xm, c7 xm_25 xm_26 xm_27 xm_29 (.ref jw) (.ref jt) l_xm), (jw, .inl (cJ, 512, .inr (.inl l_jw))), (jt, .inl (cJ, 512, .inr (.inl l_jt)))] → va_S A s.heap H locs → ∀ (ls : Array Slot), lv_has ls 10 [(0, .ref xm), (1, .int a1), (2, .long l_2), (4, .int l_4), (5, .int l_5), (6, .int l_6), (7, .int l_7), (8, .int l_8)] → W p l e (cw_rm 6) s m args below meth c H locs 0 0 (Q) (F0 m 52 ls []) := by
    intro K nO nP n9
    induction n9 with
    | zero =>
      intro l_xm l_jw l_jt l_2 l_4 l_5 l_6 l_7 l_8 HK hinv
      exact (wq_I0 hinv).elim
    | succ n9 ih0 =>
      intro l_xm l_jw l_jt l_2 l_4 l_5 l_6 l_7 l_8 HK hinv hI H locs hP hD hS ls hl
      have ih := fun x0 x1 x2 x3 x4 x5 x6 x7 x8 => ih0 x0 x1 x2 x3 x4 x5 x6 x7 x8 HK
      refine lv_iload hx hb dX7_walks_52 (lv_at hl 7 rfl) ?_
      refine lv_bipush (v := 64) hx hb dX7_walks_54 (by decide) ?_
      refine lv_icmp_ge (tgt := 161) hx hb dX7_walks_56 (by decide) (fun z10 => ?_) (fun z10 => ?_)
      · refine lv_iinc (v := (l_7 + 1)) (lv' := [(7, .int (l_7 + 1)), (0, .ref xm), (1, .int a1), (2, .long l_2), (4, .int l_4), (5, .int l_5), (6, .int l_6), (8, .int l_8)]) hx hb dX7_walks_161 hl (k := 6) rfl rfl (by decide) rfl (fun ls hl => ?_)
        refine lv_goto (tgt := 40) hx hb dX7_walks_164 (by decide) ?_
        exact HK l_xm l_jw l_jt l_2 l_4 l_5 l_6 (l_7 + 1) (wq_IM hinv (by assumption)) (by rw [← hI]; simp only [s7_walks_I, if_pos z10]) _ _ hP hD hS _ (lv_sub hl [1, 2, 3, 4, 5, 6, 0] rfl)
      · refine lv_aload_n hx hb dX7_walks_59 rfl (lv_at hl 0 rfl) ?_
        refine lv_aload_n hx hb dX7_walks_60 rfl (lv_at hl 0 rfl) ?_
        refine va_get (D := D) (ci := 7) (v := .ref jw) (C := RX7) (T := TX7) (N := 35) hx hb hts i7 hown hK hP 0 rfl rfl 30 (by decide) lf56 (fun _ h9 => h9) rfl dX7_walks_61 ?_
        refine lv_iload hx hb dX7_walks_64 (lv_at hl 6 rfl) ?_
        refine va_lald hx hb hK hP 1 1 rfl rfl (wq_i66 hinv) dX7_walks_66 ?_
        refine cw_cVv (As := [.long (l_jw l_7.toNatClampNeg)]) (rest := []) (wc := [(xm, c7 xm_25 xm_26 xm_27 xm_29 (.ref jw) (.ref jt) l_xm)]) (wr := [(jw, .inl (cJ, 512, .inr (.inl l_jw))), (jt, .inl (cJ, 512, .inr (.inl l_jt)))]) ⟨hx, hb, hml, hown, hts⟩ (k7_unpacks l D cI cJ xm xm_25 xm_26 xm_27 xm_29 (.ref jw) (.ref jt) l_xm (l_jw l_7.toNatClampNeg)) (cwV 1 hts gX7_walks_X7_unpacks rfl rfl rfl (by decide +kernel) ⟨Nat.le_of_ble_eq_true rfl, Nat.le_of_ble_eq_true rfl⟩) hK hN hP hD hS hA [0] [1, 2] rfl rfl (by decide) (by decide) (by decide) 0 (ci := 7) rfl rfl rfl rfl hl.1 rfl (Nat.le_of_ble_eq_true rfl) dX7_walks_67 ⟨Nat.le_of_ble_eq_true rfl, Nat.le_of_ble_eq_true rfl⟩ (fun u32 H locs hw hP hD hS => ?_)
        obtain ⟨v34, hv34⟩ : ∃ z : Nat → Int32, z = (s7_unpacks l_xm (l_jw l_7.toNatClampNeg)) := ⟨_, rfl⟩
        have hP : va_P D vwCl [(jw, .inl (cJ, 512, .inr (.inl l_jw))), (jt, .inl (cJ, 512, .inr (.inl l_jt))), (xm, c7 xm_25 xm_26 xm_27 xm_29 (.ref jw) (.ref jt) v34)] H := by rw [hv34]; exact hP
        have hD : va_D A [(jw, .inl (cJ, 512, .inr (.inl l_jw))), (jt, .inl (cJ, 512, .inr (.inl l_jt))), (xm, c7 xm_25 xm_26 xm_27 xm_29 (.ref jw) (.ref jt) v34)] := by rw [hv34]; exact hD
        refine lv_aload_n hx hb dX7_walks_70 rfl (lv_at hl 0 rfl) ?_
        refine va_get (D := D) (ci := 7) (v := .int (v34 12)) (C := RX7) (T := TX7) (N := 35) hx hb hts i7 hown hK hP 2 rfl rfl 12 (by decide) lf77 (fun _ h9 => h9) rfl dX7_walks_71 ?_
        refine lv_bipush (v := 6) hx hb dX7_walks_74 (by decide) ?_
        have J36 : ∀ (w37 : Int32), w37 = (if (v34 12) = 6 then 1 else 0) → W p l e (cw_rm 6) s m args below meth c H locs 0 0 (Q) (F0 m 84 ls [.int w37]) := by
          intro w37 hw37
          refine lv_istore (lv' := [(9, .int w37), (0, .ref xm), (1, .int a1), (2, .long l_2), (4, .int l_4), (5, .int l_5), (6, .int l_6), (7, .int l_7), (8, .int l_8)]) hx hb dX7_walks_84 hl (by decide) rfl (fun ls hl => ?_)
          refine lv_aload_n hx hb dX7_walks_86 rfl (lv_at hl 1 rfl) ?_
          refine lv_iload hx hb dX7_walks_87 (lv_at hl 8 rfl) ?_
          refine cw_cVv (As := [.int l_8]) (rest := []) (wc := [(xm, c7 xm_25 xm_26 xm_27 xm_29 (.ref jw) (.ref jt) v34)]) (wr := [(jw, .inl (cJ, 512, .inr (.inl l_jw))), (jt, .inl (cJ, 512, .inr (.inl l_jt)))]) ⟨hx, hb, hml, hown, hts⟩ (k7_plays l D cI cJ xm xm_25 xm_26 xm_27 xm_29 (.ref jw) (.ref jt) v34 l_8 (by simp only [hw37, hv34]; exact wq_i89 hck hinv)) (cwV 1 hts gX7_walks_X7_plays rfl rfl rfl (by decide +kernel) ⟨Nat.le_of_ble_eq_true rfl, Nat.le_of_ble_eq_true rfl⟩) hK hN hP hD hS hA [2] [0, 1] rfl rfl (by decide) (by decide) (by decide) 0 (ci := 7) rfl rfl rfl rfl hl.1 rfl (Nat.le_of_ble_eq_true rfl) dX7_walks_89 ⟨Nat.le_of_ble_eq_true rfl, Nat.le_of_ble_eq_true rfl⟩ (fun u38 H locs hw hP hD hS => ?_)
          obtain ⟨v40, hv40⟩ : ∃ z : Nat → Int32, z = (s7_plays v34 l_8) := ⟨_, rfl⟩
          have hP : va_P D vwCl [(jw, .inl (cJ, 512, .inr (.inl l_jw))), (jt, .inl (cJ, 512, .inr (.inl l_jt))), (xm, c7 xm_25 xm_26 xm_27 xm_29 (.ref jw) (.ref jt) v40)] H := by rw [hv40]; exact hP
          have hD : va_D A [(jw, .inl (cJ, 512, .inr (.inl l_jw))), (jt, .inl (cJ, 512, .inr (.inl l_jt))), (xm, c7 xm_25 xm_26 xm_27 xm_29 (.ref jw) (.ref jt) v40)] := by rw [hv40]; exact hD
          refine lv_iload hx hb dX7_walks_92 (lv_at hl 4 rfl) ?_
          refine lv_iconst (v := 1) hx hb dX7_walks_94 (by decide) ?_
          refine lv_aload_n hx hb dX7_walks_95 rfl (lv_at hl 1 rfl) ?_
          refine va_get (D := D) (ci := 7) (v := .int (v40 12)) (C := RX7) (T := TX7) (N := 35) hx hb hts i7 hown hK hP 2 rfl rfl 12 (by decide) lf77 (fun _ h9 => h9) rfl dX7_walks_96 ?_
          refine lv_ishl hx hb dX7_walks_99 ?_
          refine lv_ior hx hb dX7_walks_100 ?_
          refine lv_istore (lv' := [(4, .int (l_4 ||| ((1 : Int32) <<< ((v40 12) &&& 31)))), (9, .int w37), (0, .ref xm), (1, .int a1), (2, .long l_2), (5, .int l_5), (6, .int l_6), (7, .int l_7), (8, .int l_8)]) hx hb dX7_walks_101 hl (by decide) rfl (fun ls hl => ?_)
          refine lv_aload_n hx hb dX7_walks_103 rfl (lv_at hl 2 rfl) ?_
          refine lv_dup hx hb dX7_walks_104 rfl ?_
          refine va_get (D := D) (ci := 7) (v := .int (v40 33)) (C := RX7) (T := TX7) (N := 35) hx hb hts i7 hown hK hP 2 rfl rfl 33 (by decide) lf191 (fun _ h9 => h9) rfl dX7_walks_105 ?_
          refine lv_aload_n hx hb dX7_walks_108 rfl (lv_at hl 2 rfl) ?_
          refine va_get (D := D) (ci := 7) (v := .int (v40 12)) (C := RX7) (T := TX7) (N := 35) hx hb hts i7 hown hK hP 2 rfl rfl 12 (by decide) lf77 (fun _ h9 => h9) rfl dX7_walks_109 ?_
          refine lv_bipush (v := 6) hx hb dX7_walks_112 (by decide) ?_
          have J43 : ∀ (w44 : Int32), w44 = (if (v40 12) = 6 then (if w37 = 0 then ((1 : Int32) <<< ((v40 13) &&& 31)) else 0) else 0) → W p l e (cw_rm 6) s m args below meth c H locs 0 0 (Q) (F0 m 132 ls [.int w44, .int (v40 33), .ref xm]) := by
            intro w44 hw44
            refine lv_ior hx hb dX7_walks_132 ?_
            refine va_put (D := D) (ci := 7) (v := .int ((v40 33) ||| w44)) (ty := .int) (C := RX7) (T := TX7) (N := 35) hx hb hts i7 tyX7 tyX7_ok nmX7 hown hK hP hD hS 2 rfl rfl 33 (by decide) lf191 (fun _ h9 => h9) rfl (by decide +kernel) rfl rfl (Nat.le_of_ble_eq_true rfl) dX7_walks_133 (fun H locs hP hD hS => ?_)
            have hP : va_P D vwCl [(jw, .inl (cJ, 512, .inr (.inl l_jw))), (jt, .inl (cJ, 512, .inr (.inl l_jt))), (xm, c7 xm_25 xm_26 xm_27 xm_29 (.ref jw) (.ref jt) (upd v40 33 ((v40 33) ||| w44)))] H := (congrArg (fun z9 => va_P D vwCl [(jw, .inl (cJ, 512, .inr (.inl l_jw))), (jt, .inl (cJ, 512, .inr (.inl l_jt))), (xm, .inr (7, z9))] H) (cs7_33 xm_25 xm_26 xm_27 xm_29 (.ref jw) (.ref jt) v40 ((v40 33) ||| w44))).mp hP
            have hD : va_D A [(jw, .inl (cJ, 512, .inr (.inl l_jw))), (jt, .inl (cJ, 512, .inr (.inl l_jt))), (xm, c7 xm_25 xm_26 xm_27 xm_29 (.ref jw) (.ref jt) (upd v40 33 ((v40 33) ||| w44)))] := (congrArg (fun z9 => va_D A [(jw, .inl (cJ, 512, .inr (.inl l_jw))), (jt, .inl (cJ, 512, .inr (.inl l_jt))), (xm, .inr (7, z9))]) (cs7_33 xm_25 xm_26 xm_27 xm_29 (.ref jw) (.ref jt) v40 ((v40 33) ||| w44))).mp hD
            refine lv_iload hx hb dX7_walks_136 (lv_at hl 5 rfl) ?_
            refine lv_iload_n hx hb dX7_walks_138 rfl (lv_at hl 3 rfl) ?_
            have J49 : ∀ (w50 : Int32), w50 = (if a1 ≤ l_5 then l_6 else ((s7_adds (upd v40 33 ((v40 33) ||| w44)) l_jt l_6).1)) → ∀ (w51 : Nat → Int64), w51 = (if a1 ≤ l_5 then l_jt else ((s7_adds (upd v40 33 ((v40 33) ||| w44)) l_jt l_6).2)) → ∀ (H : Heap) (locs : List Loc), va_P D vwCl [(jw, .inl (cJ, 512, .inr (.inl l_jw))), (jt, .inl (cJ, 512, .inr (.inl w51))), (xm, c7 xm_25 xm_26 xm_27 xm_29 (.ref jw) (.ref jt) (upd v40 33 ((v40 33) ||| w44)))] H → va_D A [(jw, .inl (cJ, 512, .inr (.inl l_jw))), (jt, .inl (cJ, 512, .inr (.inl w51))), (xm, c7 xm_25 xm_26 xm_27 xm_29 (.ref jw) (.ref jt) (upd v40 33 ((v40 33) ||| w44)))] → va_S A s.heap H locs → W p l e (cw_rm 6) s m args below meth c H locs 0 0 (Q) (F0 m 153 ls [.int w50]) := by
              intro w50 hw50 w51 hw51 H locs hP hD hS
              refine lv_istore (lv' := [(6, .int w50), (4, .int (l_4 ||| ((1 : Int32) <<< ((v40 12) &&& 31)))), (9, .int w37), (0, .ref xm), (1, .int a1), (2, .long l_2), (5, .int l_5), (7, .int l_7), (8, .int l_8)]) hx hb dX7_walks_153 hl (by decide) rfl (fun ls hl => ?_)
              refine lv_iinc (v := (l_8 + 1)) (lv' := [(8, .int (l_8 + 1)), (6, .int w50), (4, .int (l_4 ||| ((1 : Int32) <<< ((v40 12) &&& 31)))), (9, .int w37), (0, .ref xm), (1, .int a1), (2, .long l_2), (5, .int l_5), (7, .int l_7)]) hx hb dX7_walks_155 hl (k := 8) rfl rfl (by decide) rfl (fun ls hl => ?_)
              refine lv_goto (tgt := 52) hx hb dX7_walks_158 (by decide) ?_
              exact ih (upd v40 33 ((v40 33) ||| w44)) l_jw w51 l_2 (l_4 ||| ((1 : Int32) <<< ((v40 12) &&& 31))) l_5 w50 l_7 (l_8 + 1) (by simp only [hw51, hw50, hw44, hv40, hw37, hv34]; exact wq_II hinv (by assumption)) (by rw [← hI]; simp only [s7_walks_I, ← hv34, ← hw37, ← hv40, ← hw44, ← hw50, ← hw51, if_neg z10]) _ _ (hP.sub [2, 0, 1] rfl) (hD.sub [2, 0, 1] (by decide) rfl) hS _ (lv_sub hl [4, 5, 6, 2, 7, 1, 8, 0] rfl)
            refine lv_icmp_ge (tgt := 151) hx hb dX7_walks_139 (by decide) (fun z45 => ?_) (fun z45 => ?_)
            · refine lv_iload hx hb dX7_walks_151 (lv_at hl 6 rfl) ?_
              exact J49 l_6 (by simp only [if_pos z45]) l_jt (by simp only [if_pos z45]) _ _ hP hD hS
            · refine lv_aload_n hx hb dX7_walks_142 rfl (lv_at hl 2 rfl) ?_
              refine lv_iload hx hb dX7_walks_143 (lv_at hl 6 rfl) ?_
              refine cw_cVi (As := [.int l_6]) (rest := []) (wc := [(xm, c7 xm_25 xm_26 xm_27 xm_29 (.ref jw) (.ref jt) (upd v40 33 ((v40 33) ||| w44))), (jt, .inl (cJ, 512, .inr (.inl l_jt)))]) (wr := [(jw, .inl (cJ, 512, .inr (.inl l_jw)))]) ⟨hx, hb, hml, hown, hts⟩ (k7_adds l D cI cJ xm jt xm_25 xm_26 xm_27 xm_29 (.ref jw) (upd v40 33 ((v40 33) ||| w44)) l_jt l_6 (wq_i145 hinv (by assumption))) (cwV 1 hts gX7_walks_X7_adds rfl rfl rfl (by decide +kernel) ⟨Nat.le_of_ble_eq_true rfl, Nat.le_of_ble_eq_true rfl⟩) hK hN hP hD hS hA [2, 1] [0] rfl rfl (by decide) (by decide) (by decide) 0 (ci := 7) rfl rfl rfl rfl hl.1 rfl (Nat.le_of_ble_eq_true rfl) dX7_walks_145 ⟨Nat.le_of_ble_eq_true rfl, Nat.le_of_ble_eq_true rfl⟩ (fun r47 u46 H locs hw hP hD hS => ?_)
              have hr47 : r47 = ((s7_adds (upd v40 33 ((v40 33) ||| w44)) l_jt l_6).1) := hw
              obtain ⟨v48, hv48⟩ : ∃ z : Nat → Int64, z = ((s7_adds (upd v40 33 ((v40 33) ||| w44)) l_jt l_6).2) := ⟨_, rfl⟩
              have hP : va_P D vwCl [(jw, .inl (cJ, 512, .inr (.inl l_jw))), (xm, c7 xm_25 xm_26 xm_27 xm_29 (.ref jw) (.ref jt) (upd v40 33 ((v40 33) ||| w44))), (jt, .inl (cJ, 512, .inr (.inl v48)))] H := by rw [hv48]; exact hP
              have hD : va_D A [(jw, .inl (cJ, 512, .inr (.inl l_jw))), (xm, c7 xm_25 xm_26 xm_27 xm_29 (.ref jw) (.ref jt) (upd v40 33 ((v40 33) ||| w44))), (jt, .inl (cJ, 512, .inr (.inl v48)))] := by rw [hv48]; exact hD
              refine lv_goto (tgt := 153) hx hb dX7_walks_148 (by decide) ?_
              exact J49 r47 (by simp only [← hv48, ← hr47, if_neg z45]) v48 (by simp only [← hv48, ← hr47, if_neg z45]) _ _ (hP.sub [0, 2, 1] rfl) (hD.sub [0, 2, 1] (by decide) rfl) hS
          refine lv_icmp_ne (tgt := 131) hx hb dX7_walks_114 (by decide) (fun z41 => ?_) (fun z41 => ?_)
          · refine lv_iconst (v := 0) hx hb dX7_walks_131 (by decide) ?_
            exact J43 0 (by simp only [if_neg z41])
          · refine lv_iload hx hb dX7_walks_117 (lv_at hl 1 rfl) ?_
            refine lv_if_ne (tgt := 131) hx hb dX7_walks_119 (by decide) (fun z42 => ?_) (fun z42 => ?_)
            · refine lv_iconst (v := 0) hx hb dX7_walks_131 (by decide) ?_
              exact J43 0 (by simp only [if_pos z41, if_neg z42])
            · refine lv_iconst (v := 1) hx hb dX7_walks_122 (by decide) ?_
              refine lv_aload_n hx hb dX7_walks_123 rfl (lv_at hl 2 rfl) ?_
              refine va_get (D := D) (ci := 7) (v := .int (v40 13)) (C := RX7) (T := TX7) (N := 35) hx hb hts i7 hown hK hP 2 rfl rfl 13 (by decide) lf100 (fun _ h9 => h9) rfl dX7_walks_124 ?_
              refine lv_ishl hx hb dX7_walks_127 ?_
              refine lv_goto (tgt := 132) hx hb dX7_walks_128 (by decide) ?_
              exact J43 ((1 : Int32) <<< ((v40 13) &&& 31)) (by simp only [if_pos z41, if_pos z42])
        refine lv_icmp_ne (tgt := 83) hx hb dX7_walks_76 (by decide) (fun z35 => ?_) (fun z35 => ?_)
        · refine lv_iconst (v := 0) hx hb dX7_walks_83 (by decide) ?_
          exact J36 0 (by simp only [if_neg z35])
        · refine lv_iconst (v := 1) hx hb dX7_walks_79 (by decide) ?_
          refine lv_goto (tgt := 84) hx hb dX7_walks_80 (by decide) ?_
          exact J36 1 (by simp only [if_pos z35])
  have LOOPC : ∀ (K : (Nat → Int32) → (Nat → Int64) → (Nat → Int64) → Int64 → Int32 → Int32 → Int32 × (Nat → Int32) × (Nat → Int64) × (Nat → Int64)) (nO : Nat) (n9 : Nat) (l_xm : Nat → Int32) (l_jw : Nat → Int64) (l_jt : Nat → Int64) (l_2 : Int64) (l_4 : Int32) (l_5 : Int32) (l_7 : Int32), (∀ (l_xm : Nat → Int32) (l_jw : Nat → Int64) (l_jt : Nat → Int64) (l_2 : Int64) (l_4 : Int32) (l_5 : Int32), wq_O mm a1 nO l_xm l_jw l_5 → K l_xm l_jw l_jt l_2 l_4 l_5 = (s7_walks mm nw nt a1) → ∀ (H : Heap) (locs : List Loc), va_P D vwCl [(xm, c7 xm_25 xm_26 xm_27 xm_29 (.ref jw) (.ref jt) l_xm), (jw, .inl (cJ, 512, .inr (.inl l_jw))), (jt, .inl (cJ, 512, .inr (.inl l_jt)))] H → va_D A [(xm, c7 xm_25 xm_26 xm_27 xm_29 (.ref jw) (.ref jt) l_xm), (jw, .inl (cJ, 512, .inr (.inl l_jw))), (jt, .inl (cJ, 512, .inr (.inl l_jt)))] → va_S A s.heap H locs → ∀ (ls : Array Slot), lv_has ls 10 [(0, .ref xm), (1, .int a1), (2, .long l_2), (4, .int l_4), (5, .int l_5)] → W p l e (cw_rm 6) s m args below meth c H locs 0 0 (Q) (F0 m 28 ls [])) → wq_C mm a1 nO n9 l_xm l_5 l_7 → s7_walks_C K mm nw nt a1 n9 l_xm l_jw l_jt l_2 l_4 l_5 l_7 = (s7_walks mm nw nt a1) → ∀ (H : Heap) (locs : List Loc), va_P D vwCl [(xm, c7 xm_25 xm_26 xm_27 xm_29 (.ref jw) (.ref jt) l_xm), (jw, .inl (cJ, 512, .inr (.inl l_jw))), (jt, .inl (cJ, 512, .inr (.inl l_jt)))] H → va_D A [(xm, c7 xm_25 xm_26 xm_27 xm_29 (.ref jw) (.ref jt) l_xm), (jw, .inl (cJ, 512, .inr (.inl l_jw))), (jt, .inl (cJ, 512, .inr (.inl l_jt)))] → va_S A s.heap H locs → ∀ (ls : Array Slot), lv_has ls 10 [(0, .ref xm), (1, .int a1), (2, .long l_2), (4, .int l_4), (5, .int l_5), (7, .int l_7)] → W p l e (cw_rm 6) s m args below meth c H locs 0 0 (Q) (F0 m 176 ls []) := by
    intro K nO n9
    induction n9 with
    | zero =>
      intro l_xm l_jw l_jt l_2 l_4 l_5 l_7 HK hinv
      exact (wq_C0 hinv).elim
    | succ n9 ih0 =>
      intro l_xm l_jw l_jt l_2 l_4 l_5 l_7 HK hinv hI H locs hP hD hS ls hl
      have ih := fun x0 x1 x2 x3 x4 x5 x6 => ih0 x0 x1 x2 x3 x4 x5 x6 HK
      refine lv_iload hx hb dX7_walks_176 (lv_at hl 5 rfl) ?_
      refine lv_aload_n hx hb dX7_walks_178 rfl (lv_at hl 0 rfl) ?_
      refine va_get (D := D) (ci := 7) (v := .int (l_xm 32)) (C := RX7) (T := TX7) (N := 35) hx hb hts i7 hown hK hP 0 rfl rfl 32 (by decide) lf194 (fun _ h9 => h9) rfl dX7_walks_179 ?_
      refine lv_icmp_ge (tgt := 205) hx hb dX7_walks_182 (by decide) (fun z52 => ?_) (fun z52 => ?_)
      · refine lv_iinc (v := (l_5 + 1)) (lv' := [(5, .int (l_5 + 1)), (0, .ref xm), (1, .int a1), (2, .long l_2), (4, .int l_4), (7, .int l_7)]) hx hb dX7_walks_205 hl (k := 4) rfl rfl (by decide) rfl (fun ls hl => ?_)
        refine lv_goto (tgt := 28) hx hb dX7_walks_208 (by decide) ?_
        exact HK l_xm l_jw l_jt l_2 l_4 (l_5 + 1) (wq_CO hinv (by assumption)) (by rw [← hI]; simp only [s7_walks_C, if_pos z52]) _ _ hP hD hS _ (lv_sub hl [1, 2, 3, 4, 0] rfl)
      · refine lv_aload_n hx hb dX7_walks_185 rfl (lv_at hl 0 rfl) ?_
        refine va_get (D := D) (ci := 7) (v := .ref jw) (C := RX7) (T := TX7) (N := 35) hx hb hts i7 hown hK hP 0 rfl rfl 30 (by decide) lf56 (fun _ h9 => h9) rfl dX7_walks_186 ?_
        refine lv_iload hx hb dX7_walks_189 (lv_at hl 5 rfl) ?_
        refine lv_aload_n hx hb dX7_walks_191 rfl (lv_at hl 0 rfl) ?_
        refine va_get (D := D) (ci := 7) (v := .ref jt) (C := RX7) (T := TX7) (N := 35) hx hb hts i7 hown hK hP 0 rfl rfl 31 (by decide) lf60 (fun _ h9 => h9) rfl dX7_walks_192 ?_
        refine lv_iload hx hb dX7_walks_195 (lv_at hl 5 rfl) ?_
        refine va_lald hx hb hK hP 2 1 rfl rfl (wq_i197 hinv (by assumption)) dX7_walks_197 ?_
        refine va_last hx hb hK hP hD hS 1 1 rfl rfl (wq_i197 hinv (by assumption)) dX7_walks_198 (fun H locs hP hD hS => ?_)
        have hP : va_P D vwCl [(xm, c7 xm_25 xm_26 xm_27 xm_29 (.ref jw) (.ref jt) l_xm), (jw, .inl (cJ, 512, .inr (.inl (vp_updL l_jw l_7.toNatClampNeg (l_jt l_7.toNatClampNeg))))), (jt, .inl (cJ, 512, .inr (.inl l_jt)))] H := hP
        have hD : va_D A [(xm, c7 xm_25 xm_26 xm_27 xm_29 (.ref jw) (.ref jt) l_xm), (jw, .inl (cJ, 512, .inr (.inl (vp_updL l_jw l_7.toNatClampNeg (l_jt l_7.toNatClampNeg))))), (jt, .inl (cJ, 512, .inr (.inl l_jt)))] := hD
        refine lv_iinc (v := (l_7 + 1)) (lv' := [(7, .int (l_7 + 1)), (0, .ref xm), (1, .int a1), (2, .long l_2), (4, .int l_4), (5, .int l_5)]) hx hb dX7_walks_199 hl (k := 5) rfl rfl (by decide) rfl (fun ls hl => ?_)
        refine lv_goto (tgt := 176) hx hb dX7_walks_202 (by decide) ?_
        exact ih l_xm (vp_updL l_jw l_7.toNatClampNeg (l_jt l_7.toNatClampNeg)) l_jt l_2 l_4 l_5 (l_7 + 1) (wq_CC hinv (by assumption)) (by rw [← hI]; simp only [s7_walks_C, if_neg z52]) _ _ hP hD hS _ (lv_sub hl [1, 2, 3, 4, 5, 0] rfl)
  have LOOPM : ∀ (K : (Nat → Int32) → (Nat → Int64) → (Nat → Int64) → Int64 → Int32 → Int32 → Int32 × (Nat → Int32) × (Nat → Int64) × (Nat → Int64)) (nO : Nat) (n9 : Nat) (l_xm : Nat → Int32) (l_jw : Nat → Int64) (l_jt : Nat → Int64) (l_2 : Int64) (l_4 : Int32) (l_5 : Int32) (l_6 : Int32) (l_7 : Int32), (∀ (l_xm : Nat → Int32) (l_jw : Nat → Int64) (l_jt : Nat → Int64) (l_2 : Int64) (l_4 : Int32) (l_5 : Int32), wq_O mm a1 nO l_xm l_jw l_5 → K l_xm l_jw l_jt l_2 l_4 l_5 = (s7_walks mm nw nt a1) → ∀ (H : Heap) (locs : List Loc), va_P D vwCl [(xm, c7 xm_25 xm_26 xm_27 xm_29 (.ref jw) (.ref jt) l_xm), (jw, .inl (cJ, 512, .inr (.inl l_jw))), (jt, .inl (cJ, 512, .inr (.inl l_jt)))] H → va_D A [(xm, c7 xm_25 xm_26 xm_27 xm_29 (.ref jw) (.ref jt) l_xm), (jw, .inl (cJ, 512, .inr (.inl l_jw))), (jt, .inl (cJ, 512, .inr (.inl l_jt)))] → va_S A s.heap H locs → ∀ (ls : Array Slot), lv_has ls 10 [(0, .ref xm), (1, .int a1), (2, .long l_2), (4, .int l_4), (5, .int l_5)] → W p l e (cw_rm 6) s m args below meth c H locs 0 0 (Q) (F0 m 28 ls [])) → wq_M mm a1 nO n9 l_xm l_jw l_jt l_5 l_6 l_7 → s7_walks_M K mm nw nt a1 n9 l_xm l_jw l_jt l_2 l_4 l_5 l_6 l_7 = (s7_walks mm nw nt a1) → ∀ (H : Heap) (locs : List Loc), va_P D vwCl [(xm, c7 xm_25 xm_26 xm_27 xm_29 (.ref jw) (.ref jt) l_xm), (jw, .inl (cJ, 512, .inr (.inl l_jw))), (jt, .inl (cJ, 512, .inr (.inl l_jt)))] H → va_D A [(xm, c7 xm_25 xm_26 xm_27 xm_29 (.ref jw) (.ref jt) l_xm), (jw, .inl (cJ, 512, .inr (.inl l_jw))), (jt, .inl (cJ, 512, .inr (.inl l_jt)))] → va_S A s.heap H locs → ∀ (ls : Array Slot), lv_has ls 10 [(0, .ref xm), (1, .int a1), (2, .long l_2), (4, .int l_4), (5, .int l_5), (6, .int l_6), (7, .int l_7)] → W p l e (cw_rm 6) s m args below meth c H locs 0 0 (Q) (F0 m 40 ls []) := by
    intro K nO n9
    induction n9 with
    | zero =>
      intro l_xm l_jw l_jt l_2 l_4 l_5 l_6 l_7 HK hinv
      exact (wq_M0 hinv).elim
    | succ n9 ih0 =>
      intro l_xm l_jw l_jt l_2 l_4 l_5 l_6 l_7 HK hinv hI H locs hP hD hS ls hl
      have ih := fun x0 x1 x2 x3 x4 x5 x6 x7 => ih0 x0 x1 x2 x3 x4 x5 x6 x7 HK
      refine lv_iload hx hb dX7_walks_40 (lv_at hl 6 rfl) ?_
      refine lv_aload_n hx hb dX7_walks_42 rfl (lv_at hl 0 rfl) ?_
      refine va_get (D := D) (ci := 7) (v := .int (l_xm 32)) (C := RX7) (T := TX7) (N := 35) hx hb hts i7 hown hK hP 0 rfl rfl 32 (by decide) lf194 (fun _ h9 => h9) rfl dX7_walks_43 ?_
      refine lv_icmp_ge (tgt := 167) hx hb dX7_walks_46 (by decide) (fun z8 => ?_) (fun z8 => ?_)
      · refine lv_aload_n hx hb dX7_walks_167 rfl (lv_at hl 0 rfl) ?_
        refine lv_iload hx hb dX7_walks_168 (lv_at hl 5 rfl) ?_
        refine va_put (D := D) (ci := 7) (v := .int l_6) (ty := .int) (C := RX7) (T := TX7) (N := 35) hx hb hts i7 tyX7 tyX7_ok nmX7 hown hK hP hD hS 0 rfl rfl 32 (by decide) lf194 (fun _ h9 => h9) rfl (by decide +kernel) rfl rfl (Nat.le_of_ble_eq_true rfl) dX7_walks_170 (fun H locs hP hD hS => ?_)
        have hP : va_P D vwCl [(xm, c7 xm_25 xm_26 xm_27 xm_29 (.ref jw) (.ref jt) (upd l_xm 32 l_6)), (jw, .inl (cJ, 512, .inr (.inl l_jw))), (jt, .inl (cJ, 512, .inr (.inl l_jt)))] H := (congrArg (fun z9 => va_P D vwCl [(xm, .inr (7, z9)), (jw, .inl (cJ, 512, .inr (.inl l_jw))), (jt, .inl (cJ, 512, .inr (.inl l_jt)))] H) (cs7_32 xm_25 xm_26 xm_27 xm_29 (.ref jw) (.ref jt) l_xm l_6)).mp hP
        have hD : va_D A [(xm, c7 xm_25 xm_26 xm_27 xm_29 (.ref jw) (.ref jt) (upd l_xm 32 l_6)), (jw, .inl (cJ, 512, .inr (.inl l_jw))), (jt, .inl (cJ, 512, .inr (.inl l_jt)))] := (congrArg (fun z9 => va_D A [(xm, .inr (7, z9)), (jw, .inl (cJ, 512, .inr (.inl l_jw))), (jt, .inl (cJ, 512, .inr (.inl l_jt)))]) (cs7_32 xm_25 xm_26 xm_27 xm_29 (.ref jw) (.ref jt) l_xm l_6)).mp hD
        refine lv_iconst (v := 0) hx hb dX7_walks_173 (by decide) ?_
        refine lv_istore (lv' := [(7, .int 0), (0, .ref xm), (1, .int a1), (2, .long l_2), (4, .int l_4), (5, .int l_5), (6, .int l_6)]) hx hb dX7_walks_174 hl (by decide) rfl (fun ls hl => ?_)
        exact LOOPC K nO 513 (upd l_xm 32 l_6) l_jw l_jt l_2 l_4 l_5 0 HK (wq_MC hinv (by assumption)) (by rw [← hI]; simp only [s7_walks_M, if_pos z8]) _ _ hP hD hS _ (lv_sub hl [1, 2, 3, 4, 5, 0] rfl)
      · refine lv_iconst (v := 0) hx hb dX7_walks_49 (by decide) ?_
        refine lv_istore (lv' := [(8, .int 0), (0, .ref xm), (1, .int a1), (2, .long l_2), (4, .int l_4), (5, .int l_5), (6, .int l_6), (7, .int l_7)]) hx hb dX7_walks_50 hl (by decide) rfl (fun ls hl => ?_)
        exact LOOPI (fun x0 x1 x2 x3 x4 x5 x6 x7 => s7_walks_M K mm nw nt a1 n9 x0 x1 x2 x3 x4 x5 x6 x7) n9 nO 65 l_xm l_jw l_jt l_2 l_4 l_5 l_6 l_7 0 ih (wq_MI hinv (by assumption)) (by rw [← hI]; simp only [s7_walks_M, if_neg z8]) _ _ hP hD hS _ (lv_sub hl [1, 2, 3, 4, 5, 6, 7, 0] rfl)
  have LOOPO : ∀ (n9 : Nat) (l_xm : Nat → Int32) (l_jw : Nat → Int64) (l_jt : Nat → Int64) (l_2 : Int64) (l_4 : Int32) (l_5 : Int32), wq_O mm a1 n9 l_xm l_jw l_5 → s7_walks_O mm nw nt a1 n9 l_xm l_jw l_jt l_2 l_4 l_5 = (s7_walks mm nw nt a1) → ∀ (H : Heap) (locs : List Loc), va_P D vwCl [(xm, c7 xm_25 xm_26 xm_27 xm_29 (.ref jw) (.ref jt) l_xm), (jw, .inl (cJ, 512, .inr (.inl l_jw))), (jt, .inl (cJ, 512, .inr (.inl l_jt)))] H → va_D A [(xm, c7 xm_25 xm_26 xm_27 xm_29 (.ref jw) (.ref jt) l_xm), (jw, .inl (cJ, 512, .inr (.inl l_jw))), (jt, .inl (cJ, 512, .inr (.inl l_jt)))] → va_S A s.heap H locs → ∀ (ls : Array Slot), lv_has ls 10 [(0, .ref xm), (1, .int a1), (2, .long l_2), (4, .int l_4), (5, .int l_5)] → W p l e (cw_rm 6) s m args below meth c H locs 0 0 (Q) (F0 m 28 ls []) := by
    intro n9
    induction n9 with
    | zero =>
      intro l_xm l_jw l_jt l_2 l_4 l_5 hinv
      exact (wq_O0 hinv).elim
    | succ n9 ih =>
      intro l_xm l_jw l_jt l_2 l_4 l_5 hinv hI H locs hP hD hS ls hl
      refine lv_iload hx hb dX7_walks_28 (lv_at hl 4 rfl) ?_
      refine lv_iload_n hx hb dX7_walks_30 rfl (lv_at hl 1 rfl) ?_
      refine lv_icmp_gt (tgt := 211) hx hb dX7_walks_31 (by decide) (fun z3 => ?_) (fun z3 => ?_)
      · refine lv_aload_n hx hb dX7_walks_211 rfl (lv_at hl 0 rfl) ?_
        refine lv_lload_n hx hb dX7_walks_212 rfl (lv_at hl 2 rfl) ?_
        refine cw_cVv (As := [.long l_2]) (rest := []) (wc := [(xm, c7 xm_25 xm_26 xm_27 xm_29 (.ref jw) (.ref jt) l_xm)]) (wr := [(jw, .inl (cJ, 512, .inr (.inl l_jw))), (jt, .inl (cJ, 512, .inr (.inl l_jt)))]) ⟨hx, hb, hml, hown, hts⟩ (k7_unpacks l D cI cJ xm xm_25 xm_26 xm_27 xm_29 (.ref jw) (.ref jt) l_xm l_2) (cwV 1 hts gX7_walks_X7_unpacks rfl rfl rfl (by decide +kernel) ⟨Nat.le_of_ble_eq_true rfl, Nat.le_of_ble_eq_true rfl⟩) hK hN hP hD hS hA [0] [1, 2] rfl rfl (by decide) (by decide) (by decide) 0 (ci := 7) rfl rfl rfl rfl hl.1 rfl (Nat.le_of_ble_eq_true rfl) dX7_walks_213 ⟨Nat.le_of_ble_eq_true rfl, Nat.le_of_ble_eq_true rfl⟩ (fun u5 H locs hw hP hD hS => ?_)
        obtain ⟨v7, hv7⟩ : ∃ z : Nat → Int32, z = (s7_unpacks l_xm l_2) := ⟨_, rfl⟩
        have hP : va_P D vwCl [(jw, .inl (cJ, 512, .inr (.inl l_jw))), (jt, .inl (cJ, 512, .inr (.inl l_jt))), (xm, c7 xm_25 xm_26 xm_27 xm_29 (.ref jw) (.ref jt) v7)] H := by rw [hv7]; exact hP
        have hD : va_D A [(jw, .inl (cJ, 512, .inr (.inl l_jw))), (jt, .inl (cJ, 512, .inr (.inl l_jt))), (xm, c7 xm_25 xm_26 xm_27 xm_29 (.ref jw) (.ref jt) v7)] := by rw [hv7]; exact hD
        refine lv_iload hx hb dX7_walks_216 (lv_at hl 3 rfl) ?_
        have hsp : (s7_walks mm nw nt a1) = ((l_4, v7, l_jw, l_jt) : Int32 × (Nat → Int32) × (Nat → Int64) × (Nat → Int64)) := by rw [← hI]; simp only [s7_walks_O, ← hv7, if_pos z3]
        exact hret _ _ _ _ _ _ _ _ (hP.sub (ws' := [(xm, c7 xm_25 xm_26 xm_27 xm_29 (.ref jw) (.ref jt) v7), (jw, .inl (cJ, 512, .inr (.inl l_jw))), (jt, .inl (cJ, 512, .inr (.inl l_jt)))]) [2, 0, 1] rfl) (hD.sub (ws' := [(xm, c7 xm_25 xm_26 xm_27 xm_29 (.ref jw) (.ref jt) v7), (jw, .inl (cJ, 512, .inr (.inl l_jw))), (jt, .inl (cJ, 512, .inr (.inl l_jt)))]) [2, 0, 1] (by decide) rfl) hS dX7_walks_218 rfl ⟨(), (by rw [hsp]), (by rw [hsp])⟩ (Nat.le_of_ble_eq_true rfl) (Nat.le_of_ble_eq_true rfl)
      · refine lv_iconst (v := 0) hx hb dX7_walks_34 (by decide) ?_
        refine lv_istore (lv' := [(6, .int 0), (0, .ref xm), (1, .int a1), (2, .long l_2), (4, .int l_4), (5, .int l_5)]) hx hb dX7_walks_35 hl (by decide) rfl (fun ls hl => ?_)
        refine lv_iconst (v := 0) hx hb dX7_walks_37 (by decide) ?_
        refine lv_istore (lv' := [(7, .int 0), (6, .int 0), (0, .ref xm), (1, .int a1), (2, .long l_2), (4, .int l_4), (5, .int l_5)]) hx hb dX7_walks_38 hl (by decide) rfl (fun ls hl => ?_)
        exact LOOPM (fun x0 x1 x2 x3 x4 x5 => s7_walks_O mm nw nt a1 n9 x0 x1 x2 x3 x4 x5) n9 513 l_xm l_jw l_jt l_2 l_4 l_5 0 0 ih (wq_OM hinv (by assumption)) (by rw [← hI]; simp only [s7_walks_O, if_neg z3]) _ _ hP hD hS _ (lv_sub hl [2, 3, 4, 5, 6, 1, 0] rfl)
  refine lv_aload_n hx hb dX7_walks_0 rfl (lv_at hl 0 rfl) ?_
  refine cw_cVl (As := []) (rest := []) (wc := [(xm, c7 xm_25 xm_26 xm_27 xm_29 (.ref jw) (.ref jt) mm)]) (wr := [(jw, .inl (cJ, 512, .inr (.inl nw))), (jt, .inl (cJ, 512, .inr (.inl nt)))]) ⟨hx, hb, hml, hown, hts⟩ (k7_packs l D cI cJ xm xm_25 xm_26 xm_27 xm_29 (.ref jw) (.ref jt) mm) (cwV 0 hts gX7_walks_X7_packs rfl rfl rfl (by decide +kernel) ⟨Nat.le_of_ble_eq_true rfl, Nat.le_of_ble_eq_true rfl⟩) hK hN hP hD hS hA [0] [1, 2] rfl rfl (by decide) (by decide) (by decide) 0 (ci := 7) rfl rfl rfl rfl hl.1 rfl (Nat.le_of_ble_eq_true rfl) dX7_walks_1 ⟨Nat.le_of_ble_eq_true rfl, Nat.le_of_ble_eq_true rfl⟩ (fun r2 u1 H locs hw hP hD hS => ?_)
  have hr2 : r2 = (s7_packs mm) := hw
  have hP : va_P D vwCl [(jw, .inl (cJ, 512, .inr (.inl nw))), (jt, .inl (cJ, 512, .inr (.inl nt))), (xm, c7 xm_25 xm_26 xm_27 xm_29 (.ref jw) (.ref jt) mm)] H := hP
  have hD : va_D A [(jw, .inl (cJ, 512, .inr (.inl nw))), (jt, .inl (cJ, 512, .inr (.inl nt))), (xm, c7 xm_25 xm_26 xm_27 xm_29 (.ref jw) (.ref jt) mm)] := hD
  refine lv_lstore_n (lv' := [(2, .long r2), (0, .ref xm), (1, .int a1)]) hx hb dX7_walks_4 rfl hl (by decide) rfl (fun ls hl => ?_)
  refine lv_iconst (v := 0) hx hb dX7_walks_5 (by decide) ?_
  refine lv_istore (lv' := [(4, .int 0), (2, .long r2), (0, .ref xm), (1, .int a1)]) hx hb dX7_walks_6 hl (by decide) rfl (fun ls hl => ?_)
  refine lv_aload_n hx hb dX7_walks_8 rfl (lv_at hl 2 rfl) ?_
  refine lv_iconst (v := 0) hx hb dX7_walks_9 (by decide) ?_
  refine va_put (D := D) (ci := 7) (v := .int 0) (ty := .int) (C := RX7) (T := TX7) (N := 35) hx hb hts i7 tyX7 tyX7_ok nmX7 hown hK hP hD hS 2 rfl rfl 33 (by decide) lf191 (fun _ h9 => h9) rfl (by decide +kernel) rfl rfl (Nat.le_of_ble_eq_true rfl) dX7_walks_10 (fun H locs hP hD hS => ?_)
  have hP : va_P D vwCl [(jw, .inl (cJ, 512, .inr (.inl nw))), (jt, .inl (cJ, 512, .inr (.inl nt))), (xm, c7 xm_25 xm_26 xm_27 xm_29 (.ref jw) (.ref jt) (upd mm 33 0))] H := (congrArg (fun z9 => va_P D vwCl [(jw, .inl (cJ, 512, .inr (.inl nw))), (jt, .inl (cJ, 512, .inr (.inl nt))), (xm, .inr (7, z9))] H) (cs7_33 xm_25 xm_26 xm_27 xm_29 (.ref jw) (.ref jt) mm 0)).mp hP
  have hD : va_D A [(jw, .inl (cJ, 512, .inr (.inl nw))), (jt, .inl (cJ, 512, .inr (.inl nt))), (xm, c7 xm_25 xm_26 xm_27 xm_29 (.ref jw) (.ref jt) (upd mm 33 0))] := (congrArg (fun z9 => va_D A [(jw, .inl (cJ, 512, .inr (.inl nw))), (jt, .inl (cJ, 512, .inr (.inl nt))), (xm, .inr (7, z9))]) (cs7_33 xm_25 xm_26 xm_27 xm_29 (.ref jw) (.ref jt) mm 0)).mp hD
  refine lv_aload_n hx hb dX7_walks_13 rfl (lv_at hl 2 rfl) ?_
  refine va_get (D := D) (ci := 7) (v := .ref jw) (C := RX7) (T := TX7) (N := 35) hx hb hts i7 hown hK hP 2 rfl rfl 30 (by decide) lf56 (fun _ h9 => h9) rfl dX7_walks_14 ?_
  refine lv_iconst (v := 0) hx hb dX7_walks_17 (by decide) ?_
  refine lv_lload_n hx hb dX7_walks_18 rfl (lv_at hl 1 rfl) ?_
  refine va_last hx hb hK hP hD hS 0 1 rfl rfl cw_in0w dX7_walks_19 (fun H locs hP hD hS => ?_)
  have hP : va_P D vwCl [(jw, .inl (cJ, 512, .inr (.inl (vp_updL nw ((0 : Int32).toNatClampNeg) r2)))), (jt, .inl (cJ, 512, .inr (.inl nt))), (xm, c7 xm_25 xm_26 xm_27 xm_29 (.ref jw) (.ref jt) (upd mm 33 0))] H := hP
  have hD : va_D A [(jw, .inl (cJ, 512, .inr (.inl (vp_updL nw ((0 : Int32).toNatClampNeg) r2)))), (jt, .inl (cJ, 512, .inr (.inl nt))), (xm, c7 xm_25 xm_26 xm_27 xm_29 (.ref jw) (.ref jt) (upd mm 33 0))] := hD
  refine lv_aload_n hx hb dX7_walks_20 rfl (lv_at hl 2 rfl) ?_
  refine lv_iconst (v := 1) hx hb dX7_walks_21 (by decide) ?_
  refine va_put (D := D) (ci := 7) (v := .int 1) (ty := .int) (C := RX7) (T := TX7) (N := 35) hx hb hts i7 tyX7 tyX7_ok nmX7 hown hK hP hD hS 2 rfl rfl 32 (by decide) lf194 (fun _ h9 => h9) rfl (by decide +kernel) rfl rfl (Nat.le_of_ble_eq_true rfl) dX7_walks_22 (fun H locs hP hD hS => ?_)
  have hP : va_P D vwCl [(jw, .inl (cJ, 512, .inr (.inl (vp_updL nw ((0 : Int32).toNatClampNeg) r2)))), (jt, .inl (cJ, 512, .inr (.inl nt))), (xm, c7 xm_25 xm_26 xm_27 xm_29 (.ref jw) (.ref jt) (upd (upd mm 33 0) 32 1))] H := (congrArg (fun z9 => va_P D vwCl [(jw, .inl (cJ, 512, .inr (.inl (vp_updL nw ((0 : Int32).toNatClampNeg) r2)))), (jt, .inl (cJ, 512, .inr (.inl nt))), (xm, .inr (7, z9))] H) (cs7_32 xm_25 xm_26 xm_27 xm_29 (.ref jw) (.ref jt) (upd mm 33 0) 1)).mp hP
  have hD : va_D A [(jw, .inl (cJ, 512, .inr (.inl (vp_updL nw ((0 : Int32).toNatClampNeg) r2)))), (jt, .inl (cJ, 512, .inr (.inl nt))), (xm, c7 xm_25 xm_26 xm_27 xm_29 (.ref jw) (.ref jt) (upd (upd mm 33 0) 32 1))] := (congrArg (fun z9 => va_D A [(jw, .inl (cJ, 512, .inr (.inl (vp_updL nw ((0 : Int32).toNatClampNeg) r2)))), (jt, .inl (cJ, 512, .inr (.inl nt))), (xm, .inr (7, z9))]) (cs7_32 xm_25 xm_26 xm_27 xm_29 (.ref jw) (.ref jt) (upd mm 33 0) 1)).mp hD
  refine lv_iconst (v := 1) hx hb dX7_walks_25 (by decide) ?_
  refine lv_istore (lv' := [(5, .int 1), (4, .int 0), (2, .long r2), (0, .ref xm), (1, .int a1)]) hx hb dX7_walks_26 hl (by decide) rfl (fun ls hl => ?_)
  exact LOOPO 5 (upd (upd mm 33 0) 32 1) (vp_updL nw ((0 : Int32).toNatClampNeg) r2) nt r2 0 1 (wq_E hck hf) (by simp only [s7_walks, ← hr2]) _ _ (hP.sub [2, 0, 1] rfl) (hD.sub [2, 0, 1] (by decide) rfl) hS _ (lv_sub hl [3, 4, 2, 1, 0] rfl)
