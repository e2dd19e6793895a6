/-- v's bits are among u's -/
def pq_le (v u : Int32) : Prop := v ||| u = u
theorem pq_leO {v w u : Int32} : pq_le (v ||| w) u ↔ pq_le v u ∧ pq_le w u := by
  unfold pq_le
  constructor
  · intro h
    have h1 : v ||| (w ||| u) = u := by rw [← Int32.or_assoc]; exact h
    have h2 : w ||| (v ||| u) = u := by rw [← Int32.or_assoc, Int32.or_comm w v]; exact h
    refine ⟨?_, ?_⟩
    · have e : v ||| (v ||| (w ||| u)) = v ||| (w ||| u) := by rw [← Int32.or_assoc, Int32.or_self]
      rw [h1] at e
      exact e
    · have e : w ||| (w ||| (v ||| u)) = w ||| (v ||| u) := by rw [← Int32.or_assoc, Int32.or_self]
      rw [h2] at e
      exact e
  · intro h
    rw [Int32.or_assoc, h.2, h.1]
theorem pq_le0 {u : Int32} : pq_le 0 u := Int32.zero_or
theorem pq_leR {u : Int32} : pq_le u u := Int32.or_self
theorem pq_leA {u v : Int32} (h : pq_le v u) (g : pq_le u v) : v = u := by
  unfold pq_le at h g
  rw [Int32.or_comm] at h
  exact g.symm.trans h
theorem pq_leT {u v w : Int32} (h : pq_le v u) (g : pq_le u w) : pq_le v w := by
  unfold pq_le at h g ⊢
  rw [← g, ← Int32.or_assoc, h]
/-- v is the least that holds all of S -/
def pq_L (S : Int32 → Prop) (v : Int32) : Prop := ∀ u, pq_le v u ↔ ∀ s, S s → pq_le s u
theorem pq_LU {S R : Int32 → Prop} {v w : Int32} (h : pq_L S v) (g : pq_L R w) (hSR : ∀ u, (∀ s, S s → pq_le s u) ↔ ∀ s, R s → pq_le s u) : v = w :=
  pq_leA ((h w).mpr ((hSR w).mpr ((g w).mp pq_leR))) ((g v).mpr ((hSR v).mp ((h v).mp pq_leR)))
/-- what a walk of the class finds in a state u with reason v -/
def pq_fc (u v : Int32) : Int32 := if u = 6 then ((1 : Int32) <<< (u &&& 31)) ||| ((1 : Int32) <<< ((8 + v) &&& 31)) else (1 : Int32) <<< (u &&& 31)
def pq_Sc : Nat → (Nat → Int32) → Int32 → Prop
  | 0, _, _ => False
  | d + 1, m, s => ∃ j : Nat, j < 64 ∧ (s = pq_fc (s7_plays m (nI j) 12) (s7_plays m (nI j) 13) ∨ pq_Sc d (s7_plays m (nI j)) s)
def pq_C (t : Nat) (m : Nat → Int32) (u : Int32) : Prop := pq_le (pq_fc (m 12) (m 13)) u ∧ (¬ m 12 = 6 → ∀ s, pq_Sc t m s → pq_le s u)
def pq_Y (f ep eq st m : Nat → Int32) : Prop := pq_F f m ∧ pq_E ep eq m ∧ pq_S st m ∧ pq_B m
theorem pq_foA {f m : Nat → Int32} (h : pq_F f m) : s6_foundAt f = pq_fc (m 12) (m 13) := by
  obtain ⟨h3, h4, -⟩ := h
  simp only [s6_foundAt, s2_isLockedOut, pq_fc, h3, h4]
  by_cases c : m 12 = 6
  · rw [if_pos c, if_pos c, if_neg (by decide)]
  · rw [if_neg c, if_neg c, if_pos rfl]
theorem pq_lkO {f m : Nat → Int32} (h : pq_F f m) : s2_isLockedOut f = 0 ↔ ¬ m 12 = 6 := by
  simp only [s2_isLockedOut, h.1]
  by_cases c : m 12 = 6
  · rw [if_pos c]
    exact ⟨fun q => absurd q (by decide), fun q => absurd c q⟩
  · rw [if_neg c]
    exact ⟨fun _ => c, fun _ => rfl⟩
theorem pq_bod {n1 m : Nat → Int32} {l3 sub u : Int32} {t : Nat} (hF : pq_F n1 m) (hs : ∀ u, (pq_le sub u ↔ ∀ s, pq_Sc t m s → pq_le s u)) :
    pq_le (if s2_isLockedOut n1 = 0 then (l3 ||| s6_foundAt n1) ||| sub else l3 ||| s6_foundAt n1) u ↔ pq_le l3 u ∧ pq_C t m u := by
  rw [pq_foA hF]
  by_cases c : m 12 = 6
  · have o : ¬ s2_isLockedOut n1 = 0 := fun q => (pq_lkO hF).mp q c
    rw [if_neg o, pq_leO]
    exact ⟨fun h => ⟨h.1, h.2, fun q => absurd c q⟩, fun h => ⟨h.1, h.2.1⟩⟩
  · have o : s2_isLockedOut n1 = 0 := (pq_lkO hF).mpr c
    rw [if_pos o, pq_leO, pq_leO, hs]
    exact ⟨fun h => ⟨h.1.1, h.1.2, fun _ => h.2⟩, fun h => ⟨⟨h.1, h.2.1⟩, h.2.2 c⟩⟩
theorem pq_wst {W A : Prop} {tl P : Nat → Prop} {j : Nat} (hj : j < 64) (c : tl j) (hW : W ↔ A ∧ P j) : (W ∧ ∀ i, j + 1 ≤ i → i < 64 → tl i → P i) ↔ A ∧ ∀ i, j ≤ i → i < 64 → tl i → P i := by
  constructor
  · intro h
    obtain ⟨h3, h4⟩ := hW.mp h.1
    refine ⟨h3, fun i hi h64 ht => ?_⟩
    by_cases e : i = j
    · rw [e]; exact h4
    · exact h.2 i (by omega) h64 ht
  · intro h
    exact ⟨hW.mpr ⟨h.1, h.2 j (Nat.le_refl _) hj c⟩, fun i hi => h.2 i (by omega)⟩
theorem pq_wsn {A : Prop} {tl P : Nat → Prop} {j : Nat} (c : ¬ tl j) : (A ∧ ∀ i, j + 1 ≤ i → i < 64 → tl i → P i) ↔ A ∧ ∀ i, j ≤ i → i < 64 → tl i → P i := by
  constructor
  · intro h
    refine ⟨h.1, fun i hi h64 ht => ?_⟩
    by_cases e : i = j
    · rw [e] at ht; exact absurd ht c
    · exact h.2 i (by omega) h64 ht
  · intro h
    exact ⟨h.1, fun i hi => h.2 i (by omega)⟩
theorem pq_wse {A : Prop} {tl P : Nat → Prop} {j : Nat} (hj : 64 ≤ j) : A ↔ A ∧ ∀ i, j ≤ i → i < 64 → tl i → P i :=
  ⟨fun h => ⟨h, fun i hi h64 => by omega⟩, fun h => h.1⟩
theorem pq_gt63 {j : Nat} (h : j ≤ 64) : ((63 : Int32) < nI j) ↔ 64 ≤ j := by
  constructor
  · intro c
    have := (nI_ltI (a := 63) (b := j) (by decide) (by omega)).mp c
    omega
  · intro c
    exact (nI_ltI (a := 63) (b := j) (by decide) (by omega)).mpr (by omega)

theorem pq_wl1 {f ep eq st m g0 g1 g2 : Nat → Int32} (hY : pq_Y f ep eq st m) {t : Nat} {tl : Int32} (hs : ∀ z : Nat → Int32, pq_L (pq_Sc t z) (s6_walk0 (nI t))) :
    ∀ (n9 j : Nat) (y0 y1 y2 : Nat → Int32) (l3 : Int32), j + n9 = 65 → j ≤ 64 → ∀ u, pq_le (s6_walk1_L f ep eq st g0 g1 g2 (nI (t + 1)) n9 y0 y1 y2 l3 tl (nI j)).1 u ↔ pq_le l3 u ∧ ∀ i, j ≤ i → i < 64 → (nI i &&& (tl ^^^ (-1))) = 0 → pq_C t (s7_plays m (nI i)) u := by
  intro n9
  induction n9 with
  | zero => intro j y0 y1 y2 l3 h1 h2; omega
  | succ n9 ih =>
    intro j y0 y1 y2 l3 h1 h2 u
    by_cases h3 : 64 ≤ j
    · have c := (pq_gt63 h2).mpr h3
      simp only [s6_walk1_L, if_pos c]
      exact pq_wse (tl := fun i => (nI i &&& (tl ^^^ (-1))) = 0) (P := fun i => pq_C t (s7_plays m (nI i)) u) h3
    · have c : ¬ (63 : Int32) < nI j := fun q => h3 ((pq_gt63 h2).mp q)
      have hj : j < 64 := by omega
      obtain ⟨hF, hE, hS, hB⟩ := hY
      by_cases d : (nI j &&& (tl ^^^ (-1))) = 0
      · have hT : pq_Y (s2_tick (s2_copyFrom y0 y1 y2 f ep eq).1 (s2_copyFrom y0 y1 y2 f ep eq).2.1 (s2_copyFrom y0 y1 y2 f ep eq).2.2 st (nI j)).2.1 (s2_tick (s2_copyFrom y0 y1 y2 f ep eq).1 (s2_copyFrom y0 y1 y2 f ep eq).2.1 (s2_copyFrom y0 y1 y2 f ep eq).2.2 st (nI j)).2.2.1 (s2_tick (s2_copyFrom y0 y1 y2 f ep eq).1 (s2_copyFrom y0 y1 y2 f ep eq).2.1 (s2_copyFrom y0 y1 y2 f ep eq).2.2 st (nI j)).2.2.2 st (s7_plays m (nI j)) :=
          pq_tick (pq_cpF (ep := ep) (eq := eq) (g := y0) (gp := y1) (gq := y2) hF) (pq_cpE (f := f) (g := y0) (gp := y1) (gq := y2) hE) hS hB (a := nI j) ⟨j, hj, rfl⟩
        simp only [s6_walk1_L, if_neg c, if_pos d, nI_1, nI_pred]
        refine (ih (j + 1) _ _ _ _ (by omega) (by omega) u).trans ?_
        exact pq_wst (tl := fun i => (nI i &&& (tl ^^^ (-1))) = 0) (P := fun i => pq_C t (s7_plays m (nI i)) u) hj d (pq_bod hT.1 (fun u => hs _ u))
      · simp only [s6_walk1_L, if_neg c, if_neg d, nI_1]
        refine (ih (j + 1) _ _ _ _ (by omega) (by omega) u).trans ?_
        exact pq_wsn (tl := fun i => (nI i &&& (tl ^^^ (-1))) = 0) (P := fun i => pq_C t (s7_plays m (nI i)) u) d
theorem pq_wl2 {f ep eq st m g0 g1 g2 g3 g4 g5 : Nat → Int32} (hY : pq_Y f ep eq st m) {t : Nat} {tl : Int32} (hs : ∀ n1 n2 n3 z g0 g1 g2 : Nat → Int32, pq_Y n1 n2 n3 st z → pq_L (pq_Sc t z) (s6_walk1 n1 n2 n3 st g0 g1 g2 (nI t)).1) :
    ∀ (n9 j : Nat) (y0 y1 y2 z0 z1 z2 : Nat → Int32) (l3 : Int32), j + n9 = 65 → j ≤ 64 → ∀ u, pq_le (s6_walk2_L f ep eq st g0 g1 g2 g3 g4 g5 (nI (t + 1)) n9 y0 y1 y2 z0 z1 z2 l3 tl (nI j)).1 u ↔ pq_le l3 u ∧ ∀ i, j ≤ i → i < 64 → (nI i &&& (tl ^^^ (-1))) = 0 → pq_C t (s7_plays m (nI i)) u := by
  intro n9
  induction n9 with
  | zero => intro j y0 y1 y2 z0 z1 z2 l3 h1 h2; omega
  | succ n9 ih =>
    intro j y0 y1 y2 z0 z1 z2 l3 h1 h2 u
    by_cases h3 : 64 ≤ j
    · have c := (pq_gt63 h2).mpr h3
      simp only [s6_walk2_L, if_pos c]
      exact pq_wse (tl := fun i => (nI i &&& (tl ^^^ (-1))) = 0) (P := fun i => pq_C t (s7_plays m (nI i)) u) h3
    · have c : ¬ (63 : Int32) < nI j := fun q => h3 ((pq_gt63 h2).mp q)
      have hj : j < 64 := by omega
      obtain ⟨hF, hE, hS, hB⟩ := hY
      by_cases d : (nI j &&& (tl ^^^ (-1))) = 0
      · have hT : pq_Y (s2_tick (s2_copyFrom y0 y1 y2 f ep eq).1 (s2_copyFrom y0 y1 y2 f ep eq).2.1 (s2_copyFrom y0 y1 y2 f ep eq).2.2 st (nI j)).2.1 (s2_tick (s2_copyFrom y0 y1 y2 f ep eq).1 (s2_copyFrom y0 y1 y2 f ep eq).2.1 (s2_copyFrom y0 y1 y2 f ep eq).2.2 st (nI j)).2.2.1 (s2_tick (s2_copyFrom y0 y1 y2 f ep eq).1 (s2_copyFrom y0 y1 y2 f ep eq).2.1 (s2_copyFrom y0 y1 y2 f ep eq).2.2 st (nI j)).2.2.2 st (s7_plays m (nI j)) :=
          pq_tick (pq_cpF (ep := ep) (eq := eq) (g := y0) (gp := y1) (gq := y2) hF) (pq_cpE (f := f) (g := y0) (gp := y1) (gq := y2) hE) hS hB (a := nI j) ⟨j, hj, rfl⟩
        simp only [s6_walk2_L, if_neg c, if_pos d, nI_1, nI_pred]
        refine (ih (j + 1) _ _ _ _ _ _ _ (by omega) (by omega) u).trans ?_
        exact pq_wst (tl := fun i => (nI i &&& (tl ^^^ (-1))) = 0) (P := fun i => pq_C t (s7_plays m (nI i)) u) hj d (pq_bod hT.1 (fun u => hs _ _ _ _ _ _ _ hT u))
      · simp only [s6_walk2_L, if_neg c, if_neg d, nI_1]
        refine (ih (j + 1) _ _ _ _ _ _ _ (by omega) (by omega) u).trans ?_
        exact pq_wsn (tl := fun i => (nI i &&& (tl ^^^ (-1))) = 0) (P := fun i => pq_C t (s7_plays m (nI i)) u) d
theorem pq_wl3 {f ep eq st m g0 g1 g2 g3 g4 g5 g6 g7 g8 : Nat → Int32} (hY : pq_Y f ep eq st m) {t : Nat} {tl : Int32} (hs : ∀ n1 n2 n3 z g0 g1 g2 g3 g4 g5 : Nat → Int32, pq_Y n1 n2 n3 st z → pq_L (pq_Sc t z) (s6_walk2 n1 n2 n3 st g0 g1 g2 g3 g4 g5 (nI t)).1) :
    ∀ (n9 j : Nat) (y0 y1 y2 z0 z1 z2 w0 w1 w2 : Nat → Int32) (l3 : Int32), j + n9 = 65 → j ≤ 64 → ∀ u, pq_le (s6_walk3_L f ep eq st g0 g1 g2 g3 g4 g5 g6 g7 g8 (nI (t + 1)) n9 y0 y1 y2 z0 z1 z2 w0 w1 w2 l3 tl (nI j)).1 u ↔ pq_le l3 u ∧ ∀ i, j ≤ i → i < 64 → (nI i &&& (tl ^^^ (-1))) = 0 → pq_C t (s7_plays m (nI i)) u := by
  intro n9
  induction n9 with
  | zero => intro j y0 y1 y2 z0 z1 z2 w0 w1 w2 l3 h1 h2; omega
  | succ n9 ih =>
    intro j y0 y1 y2 z0 z1 z2 w0 w1 w2 l3 h1 h2 u
    by_cases h3 : 64 ≤ j
    · have c := (pq_gt63 h2).mpr h3
      simp only [s6_walk3_L, if_pos c]
      exact pq_wse (tl := fun i => (nI i &&& (tl ^^^ (-1))) = 0) (P := fun i => pq_C t (s7_plays m (nI i)) u) h3
    · have c : ¬ (63 : Int32) < nI j := fun q => h3 ((pq_gt63 h2).mp q)
      have hj : j < 64 := by omega
      obtain ⟨hF, hE, hS, hB⟩ := hY
      by_cases d : (nI j &&& (tl ^^^ (-1))) = 0
      · have hT : pq_Y (s2_tick (s2_copyFrom y0 y1 y2 f ep eq).1 (s2_copyFrom y0 y1 y2 f ep eq).2.1 (s2_copyFrom y0 y1 y2 f ep eq).2.2 st (nI j)).2.1 (s2_tick (s2_copyFrom y0 y1 y2 f ep eq).1 (s2_copyFrom y0 y1 y2 f ep eq).2.1 (s2_copyFrom y0 y1 y2 f ep eq).2.2 st (nI j)).2.2.1 (s2_tick (s2_copyFrom y0 y1 y2 f ep eq).1 (s2_copyFrom y0 y1 y2 f ep eq).2.1 (s2_copyFrom y0 y1 y2 f ep eq).2.2 st (nI j)).2.2.2 st (s7_plays m (nI j)) :=
          pq_tick (pq_cpF (ep := ep) (eq := eq) (g := y0) (gp := y1) (gq := y2) hF) (pq_cpE (f := f) (g := y0) (gp := y1) (gq := y2) hE) hS hB (a := nI j) ⟨j, hj, rfl⟩
        simp only [s6_walk3_L, if_neg c, if_pos d, nI_1, nI_pred]
        refine (ih (j + 1) _ _ _ _ _ _ _ _ _ _ (by omega) (by omega) u).trans ?_
        exact pq_wst (tl := fun i => (nI i &&& (tl ^^^ (-1))) = 0) (P := fun i => pq_C t (s7_plays m (nI i)) u) hj d (pq_bod hT.1 (fun u => hs _ _ _ _ _ _ _ _ _ _ hT u))
      · simp only [s6_walk3_L, if_neg c, if_neg d, nI_1]
        refine (ih (j + 1) _ _ _ _ _ _ _ _ _ _ (by omega) (by omega) u).trans ?_
        exact pq_wsn (tl := fun i => (nI i &&& (tl ^^^ (-1))) = 0) (P := fun i => pq_C t (s7_plays m (nI i)) u) d
theorem pq_p13 (n : Nat → Int32) (a : Int32) (h : n 12 = 6) : s7_plays n a 12 = 6 ∧ s7_plays n a 13 = n 13 := by
  obtain ⟨m1, m2, e1, e2, e3⟩ := pq_playE n a
  have k0 : ∀ k, k ≠ 14 → k ≠ 15 → k ≠ 16 → k < 18 → upd (s7_goes m2) 14 (s7_goes m2 14 + 1) k = n k := fun k h1 h2 h3 h4 => by
    rw [cw_updn _ _ h1, wq_goesF _ _ h2 h3, e2, cw_updn _ _ (by omega), wq_looksF _ _ _ _ _ (by omega), e1, cw_updn _ _ (by omega), wq_looksF _ _ _ _ _ (by omega)]
  obtain ⟨x3, hx3⟩ : ∃ x3 : Nat → Int32, x3 = upd (s7_goes m2) 14 (s7_goes m2 14 + 1) := ⟨_, rfl⟩
  rw [← hx3] at e3 k0
  have c : x3 12 = 6 := (k0 12 (by decide) (by decide) (by decide) (by decide)).trans h
  have q0 : ¬ x3 12 = 0 := by rw [c]; decide
  have q1 : ¬ x3 12 = 1 := by rw [c]; decide
  have q2 : ¬ x3 12 = 2 := by rw [c]; decide
  have q3 : ¬ x3 12 = 3 := by rw [c]; decide
  have q4 : ¬ x3 12 = 4 := by rw [c]; decide
  have q5 : ¬ x3 12 = 5 := by rw [c]; decide
  have e : s7_decides x3 a = x3 := by simp only [s7_decides, if_neg q0, if_neg q1, if_neg q2, if_neg q3, if_neg q4, if_neg q5]
  rw [e3, e]
  exact ⟨c, k0 13 (by decide) (by decide) (by decide) (by decide)⟩
theorem pq_ScL : ∀ (t : Nat) (m : Nat → Int32) (s : Int32), m 12 = 6 → pq_Sc t m s → s = pq_fc (m 12) (m 13) := by
  intro t
  induction t with
  | zero => intro m s h q; exact q.elim
  | succ t ih =>
    intro m s h q
    obtain ⟨j, hj, q⟩ := q
    obtain ⟨h12, h13⟩ := pq_p13 m (nI j) h
    rcases q with q | q
    · rw [q, h12, h13, h]
    · rw [ih _ s h12 q, h12, h13, h]
/-- the signals that a state heeds -/
theorem pq_t25 : ∀ j : Nat, j < 64 → (j &&& 25 < 64 ∧ (nI (j &&& 25) &&& ((25 : Int32) ^^^ (-1))) = 0 ∧ s7_has (nI j) 3 = s7_has (nI (j &&& 25)) 3 ∧ s7_has (nI j) 4 = s7_has (nI (j &&& 25)) 4 ∧ s7_has (nI j) 0 = s7_has (nI (j &&& 25)) 0) := by decide +kernel
theorem pq_t27 : ∀ j : Nat, j < 64 → (j &&& 27 < 64 ∧ (nI (j &&& 27) &&& ((27 : Int32) ^^^ (-1))) = 0 ∧ s7_has (nI j) 3 = s7_has (nI (j &&& 27)) 3 ∧ s7_has (nI j) 4 = s7_has (nI (j &&& 27)) 4 ∧ s7_has (nI j) 0 = s7_has (nI (j &&& 27)) 0 ∧ s7_has (nI j) 1 = s7_has (nI (j &&& 27)) 1) := by decide +kernel
theorem pq_t31 : ∀ j : Nat, j < 64 → (j &&& 31 < 64 ∧ (nI (j &&& 31) &&& ((31 : Int32) ^^^ (-1))) = 0 ∧ s7_has (nI j) 3 = s7_has (nI (j &&& 31)) 3 ∧ s7_has (nI j) 4 = s7_has (nI (j &&& 31)) 4 ∧ s7_has (nI j) 0 = s7_has (nI (j &&& 31)) 0 ∧ s7_has (nI j) 1 = s7_has (nI (j &&& 31)) 1 ∧ s7_has (nI j) 2 = s7_has (nI (j &&& 31)) 2) := by decide +kernel
theorem pq_t24 : ∀ j : Nat, j < 64 → (j &&& 24 < 64 ∧ (nI (j &&& 24) &&& ((24 : Int32) ^^^ (-1))) = 0 ∧ s7_has (nI j) 3 = s7_has (nI (j &&& 24)) 3 ∧ s7_has (nI j) 4 = s7_has (nI (j &&& 24)) 4) := by decide +kernel
theorem pq_t63 : ∀ j : Nat, j < 64 → (nI j &&& ((63 : Int32) ^^^ (-1))) = 0 := by decide +kernel
theorem pq_tell (m : Nat → Int32) {j : Nat} (hj : j < 64) : ∃ i : Nat, i < 64 ∧ (nI i &&& (s6_tellingSignals (m 12) ^^^ (-1))) = 0 ∧ s7_plays m (nI j) = s7_plays m (nI i) := by
  obtain ⟨l10, l20, l21, l30, l31, l32, l40, l41, l42, l43, l50, l51, l52, l53, l54⟩ := pq_lit
  by_cases c0 : m 12 = 0
  · obtain ⟨i1, i2, e3, e4, e0⟩ := pq_t25 j hj
    refine ⟨j &&& 25, i1, ?_, wq_playsA m e3 e4 (fun n1 q _ _ => ?_)⟩
    · simp only [s6_tellingSignals, if_pos c0]; exact i2
    · have q0 : n1 12 = 0 := q.trans c0
      simp only [s7_decides, if_pos q0, e0]
  by_cases c1 : m 12 = 1
  · obtain ⟨i1, i2, e3, e4, e0, e1⟩ := pq_t27 j hj
    refine ⟨j &&& 27, i1, ?_, wq_playsA m e3 e4 (fun n1 q _ _ => ?_)⟩
    · simp only [s6_tellingSignals, if_neg c0, if_pos c1]; exact i2
    · have q0 : ¬ n1 12 = 0 := by rw [q]; exact c0
      have q1 : n1 12 = 1 := q.trans c1
      simp only [s7_decides, s7_purges, if_neg q0, if_pos q1, e0, e1]
  by_cases c2 : m 12 = 2
  · obtain ⟨i1, i2, e3, e4, e0, e1, e2⟩ := pq_t31 j hj
    refine ⟨j &&& 31, i1, ?_, wq_playsA m e3 e4 (fun n1 q _ _ => ?_)⟩
    · simp only [s6_tellingSignals, if_neg c0, if_neg c1, if_pos c2]; exact i2
    · have q0 : ¬ n1 12 = 0 := by rw [q]; exact c0
      have q1 : ¬ n1 12 = 1 := by rw [q]; exact c1
      have q2 : n1 12 = 2 := q.trans c2
      simp only [s7_decides, s7_lights, s7_lacks, if_neg q0, if_neg q1, if_pos q2, e0, e1, e2]
  by_cases c3 : m 12 = 3
  · obtain ⟨i1, i2, e3, e4, e0, e1, e2⟩ := pq_t31 j hj
    refine ⟨j &&& 31, i1, ?_, wq_playsA m e3 e4 (fun n1 q _ _ => ?_)⟩
    · simp only [s6_tellingSignals, if_neg c0, if_neg c1, if_neg c2, if_pos c3]; exact i2
    · have q0 : ¬ n1 12 = 0 := by rw [q]; exact c0
      have q1 : ¬ n1 12 = 1 := by rw [q]; exact c1
      have q2 : ¬ n1 12 = 2 := by rw [q]; exact c2
      have q3 : n1 12 = 3 := q.trans c3
      simp only [s7_decides, s7_lights, s7_lacks, if_neg q0, if_neg q1, if_neg q2, if_pos q3, e0, e1, e2]
  by_cases c4 : m 12 = 4
  · refine ⟨j, hj, ?_, rfl⟩
    simp only [s6_tellingSignals, if_neg c0, if_neg c1, if_neg c2, if_neg c3, if_pos c4]
    exact pq_t63 j hj
  · obtain ⟨i1, i2, e3, e4⟩ := pq_t24 j hj
    refine ⟨j &&& 24, i1, ?_, wq_playsA m e3 e4 (fun n1 q _ _ => ?_)⟩
    · simp only [s6_tellingSignals, if_neg c0, if_neg c1, if_neg c2, if_neg c3, if_neg c4]; exact i2
    · have q0 : ¬ n1 12 = 0 := by rw [q]; exact c0
      have q1 : ¬ n1 12 = 1 := by rw [q]; exact c1
      have q2 : ¬ n1 12 = 2 := by rw [q]; exact c2
      have q3 : ¬ n1 12 = 3 := by rw [q]; exact c3
      have q4 : ¬ n1 12 = 4 := by rw [q]; exact c4
      simp only [s7_decides, if_neg q0, if_neg q1, if_neg q2, if_neg q3, if_neg q4]
theorem pq_fin {m : Nat → Int32} {t : Nat} {u : Int32} : (pq_le 0 u ∧ ∀ i, 0 ≤ i → i < 64 → (nI i &&& (s6_tellingSignals (m 12) ^^^ (-1))) = 0 → pq_C t (s7_plays m (nI i)) u) ↔ ∀ s, pq_Sc (t + 1) m s → pq_le s u := by
  constructor
  · intro h s q
    obtain ⟨j, hj, q⟩ := q
    obtain ⟨i, hi, ht, e⟩ := pq_tell m hj
    rw [e] at q
    have hC := h.2 i (Nat.zero_le _) hi ht
    rcases q with q | q
    · rw [q]; exact hC.1
    · by_cases c : s7_plays m (nI i) 12 = 6
      · rw [pq_ScL _ _ _ c q]; exact hC.1
      · exact hC.2 c s q
  · intro h
    refine ⟨pq_le0, fun i _ hi _ => ⟨h _ ⟨i, hi, Or.inl rfl⟩, fun _ s q => h s ⟨i, hi, Or.inr q⟩⟩⟩
theorem pq_L0 {m : Nat → Int32} : pq_L (pq_Sc 0 m) 0 := fun _ => ⟨fun _ _ q => q.elim, fun _ => pq_le0⟩
theorem pq_W1 : ∀ (t : Nat), t ≤ 1 → ∀ f ep eq m st g0 g1 g2 : Nat → Int32, pq_Y f ep eq st m → pq_L (pq_Sc t m) (s6_walk1 f ep eq st g0 g1 g2 (nI t)).1 := by
  intro t ht f ep eq m st g0 g1 g2 hY
  cases t with
  | zero =>
    have c : ¬ (0 : Int32) < nI 0 := by decide
    simp only [s6_walk1, if_neg c]
    exact pq_L0
  | succ t =>
    have c : (0 : Int32) < nI (t + 1) := (nI_ltI (a := 0) (by decide) (by omega)).mpr (by omega)
    have e : (s6_walk1 f ep eq st g0 g1 g2 (nI (t + 1))).1 = (s6_walk1_L f ep eq st g0 g1 g2 (nI (t + 1)) 65 g0 g1 g2 0 (s6_tellingSignals (m 12)) (nI 0)).1 := by
      rw [← hY.1.1]
      simp only [s6_walk1, if_pos c]
      rfl
    intro u
    have t0 : t = 0 := by omega
    subst t0
    rw [e, pq_wl1 hY (fun z => pq_L0) 65 0 g0 g1 g2 0 (by decide) (by decide) u]
    exact pq_fin
theorem pq_W2 : ∀ (t : Nat), t ≤ 2 → ∀ f ep eq m st g0 g1 g2 g3 g4 g5 : Nat → Int32, pq_Y f ep eq st m → pq_L (pq_Sc t m) (s6_walk2 f ep eq st g0 g1 g2 g3 g4 g5 (nI t)).1 := by
  intro t ht f ep eq m st g0 g1 g2 g3 g4 g5 hY
  cases t with
  | zero =>
    have c : ¬ (0 : Int32) < nI 0 := by decide
    simp only [s6_walk2, if_neg c]
    exact pq_L0
  | succ t =>
    have c : (0 : Int32) < nI (t + 1) := (nI_ltI (a := 0) (by decide) (by omega)).mpr (by omega)
    have e : (s6_walk2 f ep eq st g0 g1 g2 g3 g4 g5 (nI (t + 1))).1 = (s6_walk2_L f ep eq st g0 g1 g2 g3 g4 g5 (nI (t + 1)) 65 g0 g1 g2 g3 g4 g5 0 (s6_tellingSignals (m 12)) (nI 0)).1 := by
      rw [← hY.1.1]
      simp only [s6_walk2, if_pos c]
      rfl
    intro u
    rw [e, pq_wl2 hY (fun n1 n2 n3 z k0 k1 k2 hz => pq_W1 t (by omega) n1 n2 n3 z st k0 k1 k2 hz) 65 0 g0 g1 g2 g3 g4 g5 0 (by decide) (by decide) u]
    exact pq_fin
theorem pq_W3 : ∀ (t : Nat), t ≤ 3 → ∀ f ep eq m st g0 g1 g2 g3 g4 g5 g6 g7 g8 : Nat → Int32, pq_Y f ep eq st m → pq_L (pq_Sc t m) (s6_walk3 f ep eq st g0 g1 g2 g3 g4 g5 g6 g7 g8 (nI t)).1 := by
  intro t ht f ep eq m st g0 g1 g2 g3 g4 g5 g6 g7 g8 hY
  cases t with
  | zero =>
    have c : ¬ (0 : Int32) < nI 0 := by decide
    simp only [s6_walk3, if_neg c]
    exact pq_L0
  | succ t =>
    have c : (0 : Int32) < nI (t + 1) := (nI_ltI (a := 0) (by decide) (by omega)).mpr (by omega)
    have e : (s6_walk3 f ep eq st g0 g1 g2 g3 g4 g5 g6 g7 g8 (nI (t + 1))).1 = (s6_walk3_L f ep eq st g0 g1 g2 g3 g4 g5 g6 g7 g8 (nI (t + 1)) 65 g0 g1 g2 g3 g4 g5 g6 g7 g8 0 (s6_tellingSignals (m 12)) (nI 0)).1 := by
      rw [← hY.1.1]
      simp only [s6_walk3, if_pos c]
      rfl
    intro u
    rw [e, pq_wl3 hY (fun n1 n2 n3 z k0 k1 k2 k3 k4 k5 hz => pq_W2 t (by omega) n1 n2 n3 z st k0 k1 k2 k3 k4 k5 hz) 65 0 g0 g1 g2 g3 g4 g5 g6 g7 g8 0 (by decide) (by decide) u]
    exact pq_fin
