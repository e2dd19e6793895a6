/-- what the model finds in a step from a state r to a state u with reason v -/
def pq_fm (r u v : Int32) : Int32 := ((1 : Int32) <<< (u &&& 31)) ||| ((if u = 6 then (if (if r = 6 then (1 : Int32) else 0) = 0 then ((1 : Int32) <<< (v &&& 31)) else 0) else 0) <<< 8)
def pq_Sm : Nat → (Nat → Int32) → Int32 → Prop
  | 0, _, _ => False
  | d + 1, m, s => ∃ j : Nat, j < 64 ∧ (s = pq_fm (m 12) (s7_plays m (nI j) 12) (s7_plays m (nI j) 13) ∨ pq_Sm d (s7_plays m (nI j)) s)
/-- all that the model finds within d steps stands in u -/
def pq_T (d : Nat) (m : Nat → Int32) (u : Int32) : Prop := ∀ s, pq_Sm d m s → pq_le s u
theorem pq_SmC : ∀ (d : Nat) (m n : Nat → Int32) (s : Int32), wq_20 m n → (pq_Sm d m s ↔ pq_Sm d n s) := by
  intro d
  induction d with
  | zero => intro m n s h; exact Iff.rfl
  | succ d ih =>
    intro m n s h
    have e : ∀ j : Nat, (s = pq_fm (m 12) (s7_plays m (nI j) 12) (s7_plays m (nI j) 13) ∨ pq_Sm d (s7_plays m (nI j)) s) ↔ (s = pq_fm (n 12) (s7_plays n (nI j) 12) (s7_plays n (nI j) 13) ∨ pq_Sm d (s7_plays n (nI j)) s) := by
      intro j
      have g := g7_plays h (nI j)
      rw [h 12 (by decide), g 12 (by decide), g 13 (by decide), ih _ _ s g]
    constructor
    · intro q
      obtain ⟨j, hj, q⟩ := q
      exact ⟨j, hj, (e j).mp q⟩
    · intro q
      obtain ⟨j, hj, q⟩ := q
      exact ⟨j, hj, (e j).mpr q⟩
theorem pq_TC {d : Nat} {m n : Nat → Int32} {u : Int32} (h : wq_20 m n) : pq_T d m u ↔ pq_T d n u :=
  ⟨fun q s hs => q s ((pq_SmC d m n s h).mpr hs), fun q s hs => q s ((pq_SmC d m n s h).mp hs)⟩
theorem pq_T0 {m : Nat → Int32} {u : Int32} : pq_T 0 m u := fun _ q => q.elim
theorem pq_TS {d : Nat} {m : Nat → Int32} {u : Int32} : pq_T (d + 1) m u ↔ ∀ j : Nat, j < 64 → pq_le (pq_fm (m 12) (s7_plays m (nI j) 12) (s7_plays m (nI j) 13)) u ∧ pq_T d (s7_plays m (nI j)) u := by
  constructor
  · intro h j hj
    exact ⟨h _ ⟨j, hj, Or.inl rfl⟩, fun s q => h s ⟨j, hj, Or.inr q⟩⟩
  · intro h s q
    obtain ⟨j, hj, q⟩ := q
    rcases q with q | q
    · rw [q]; exact (h j hj).1
    · exact (h j hj).2 s q
theorem pq_sh8 : ∀ k : Nat, k < 9 → ((1 : Int32) <<< (nI k &&& 31)) <<< 8 = (1 : Int32) <<< ((8 + nI k) &&& 31) := by decide +kernel
theorem pq_fmN {r u v : Int32} (h : ¬ u = 6) : pq_fm r u v = (1 : Int32) <<< (u &&& 31) := by
  simp only [pq_fm, if_neg h]
  have e : (0 : Int32) <<< 8 = 0 := by decide
  rw [e, Int32.or_zero]
theorem pq_fm6 {v : Int32} : pq_fm 6 6 v = 64 := by
  have l10 : ¬ (1 : Int32) = 0 := by decide
  simp only [pq_fm, if_true, if_neg l10]
  decide
theorem pq_fmc {r u v : Int32} (hr : ¬ r = 6) (hv : 0 ≤ v.toInt ∧ v.toInt ≤ 8) : pq_fm r u v = pq_fc u v := by
  by_cases h : u = 6
  · obtain ⟨k, hk, e⟩ := pq_nI (B := 8) hv.1 hv.2
    simp only [pq_fm, pq_fc, if_pos h, if_neg hr, if_true]
    rw [e, pq_sh8 k (by omega)]
  · rw [pq_fmN h]
    simp only [pq_fc, if_neg h]
theorem pq_SmL : ∀ (t : Nat) (m : Nat → Int32) (s : Int32), m 12 = 6 → pq_Sm t m s → s = 64 := by
  intro t
  induction t with
  | zero => intro m s h q; exact q.elim
  | succ t ih =>
    intro m s h q
    obtain ⟨j, hj, q⟩ := q
    obtain ⟨h12, h13⟩ := pq_p13 m (nI j) h
    rcases q with q | q
    · rw [q, h12, h, pq_fm6]
    · exact ih _ s h12 q
theorem pq_fc64 {v : Int32} : pq_le 64 (pq_fc 6 v) := by
  simp only [pq_fc, if_true]
  have e : (1 : Int32) <<< ((6 : Int32) &&& 31) = 64 := by decide
  rw [e]
  unfold pq_le
  rw [← Int32.or_assoc, Int32.or_self]
theorem pq_SS {st : Nat → Int32} {u : Int32} : ∀ (d T : Nat) (m : Nat → Int32), T + d < 1000000 → pq_Q T st m → ¬ m 12 = 6 → (pq_T d m u ↔ ∀ s, pq_Sc d m s → pq_le s u) := by
  intro d
  induction d with
  | zero => intro T m hT hQ hm; exact ⟨fun _ s q => q.elim, fun _ s q => q.elim⟩
  | succ d ih =>
    intro T m hT hQ hm
    have hj : ∀ j : Nat, j < 64 → ((pq_le (pq_fm (m 12) (s7_plays m (nI j) 12) (s7_plays m (nI j) 13)) u ∧ pq_T d (s7_plays m (nI j)) u) ↔ (pq_le (pq_fc (s7_plays m (nI j) 12) (s7_plays m (nI j) 13)) u ∧ ∀ s, pq_Sc d (s7_plays m (nI j)) s → pq_le s u)) := by
      intro j h64
      have hQ1 := pq_Qt hQ (by omega) (a := nI j) ⟨j, h64, rfl⟩
      have hN : 0 ≤ (s7_plays m (nI j) 13).toInt ∧ (s7_plays m (nI j) 13).toInt ≤ 8 := by
        obtain ⟨f, ep, eq, -, -, -, -, hN⟩ := hQ1
        exact hN.2.1
      rw [pq_fmc hm hN]
      by_cases c : s7_plays m (nI j) 12 = 6
      · constructor
        · intro h
          exact ⟨h.1, fun s q => by rw [pq_ScL _ _ _ c q]; exact h.1⟩
        · intro h
          refine ⟨h.1, fun s q => ?_⟩
          rw [pq_SmL _ _ _ c q]
          have h1 := h.1
          rw [c] at h1
          exact pq_leT pq_fc64 h1
      · rw [ih (T + 1) _ (by omega) hQ1 c]
    rw [pq_TS]
    constructor
    · intro h s q
      obtain ⟨j, h64, q⟩ := q
      have h1 := (hj j h64).mp (h j h64)
      rcases q with q | q
      · rw [q]; exact h1.1
      · exact h1.2 s q
    · intro h j h64
      exact (hj j h64).mpr ⟨h _ ⟨j, h64, Or.inl rfl⟩, fun s q => h s ⟨j, h64, Or.inr q⟩⟩
theorem pq_adds {mm : Nat → Int32} {th : Nat → Int64} {M : Nat} (hM : M < 512) : ∃ M1 : Nat, M1 ≤ M + 1 ∧ (s7_adds mm th (nI M)).1 = nI M1 ∧ ∀ P : Int64 → Prop, (∀ i, i < M1 → P ((s7_adds mm th (nI M)).2 i)) ↔ (∀ i, i < M → P (th i)) ∧ P (s7_packs mm) := by
  have h := wq_addsL (mm := mm) (nt := th) hM (s7_packs mm) 513 0 1 (by omega) (Nat.zero_le _) (Or.inr rfl) (fun q => absurd q (by decide)) (fun _ i hi => absurd hi (Nat.not_lt_zero _))
  have e : s7_adds mm th (nI M) = s7_adds_L mm th (nI M) 513 (s7_packs mm) 1 (nI 0) := rfl
  rw [e]
  rcases h with ⟨h1, i, hi, h2⟩ | ⟨h1, -⟩
  · refine ⟨M, by omega, by rw [h1], fun P => ?_⟩
    rw [h1]
    exact ⟨fun q => ⟨q, by rw [← h2]; exact q i hi⟩, fun q => q.1⟩
  · refine ⟨M + 1, Nat.le_refl _, by rw [h1]; exact nI_1 M, fun P => ?_⟩
    rw [h1]
    constructor
    · intro q
      refine ⟨fun i hi => ?_, ?_⟩
      · have hq := q i (by omega)
        simp only [vp_updL, if_neg (show ¬ i = M by omega)] at hq
        exact hq
      · have hq := q M (by omega)
        simp only [vp_updL, if_true] at hq
        exact hq
    · intro q i hi
      by_cases c : i = M
      · simp only [vp_updL, if_pos c]; exact q.2
      · simp only [vp_updL, if_neg c]; exact q.1 i (by omega)
/-- a packed state of the model that the class could be in -/
def pq_g (T : Nat) (st m0 : Nat → Int32) (z : Int64) : Prop := ∃ y : Nat → Int32, pq_Q T st y ∧ wq_ag m0 y ∧ z = s7_packs y
theorem pq_gU {T : Nat} {st m0 y : Nat → Int32} {z : Int64} (hQ : pq_Q T st y) (hT : T < 262144) (ha : wq_ag m0 y) (hz : z = s7_packs y) : wq_20 (s7_unpacks m0 z) y := by
  intro k hk
  rw [hz]
  exact pq_rt hQ hT (fun k hk => (ha k hk).symm) k hk
/-- what is kept by all loops of the model's walk -/
def pq_V (m0 x : Nat → Int32) (l4 : Int32) : Prop := (∀ k, k < 12 ∨ (20 < k ∧ k < 32) ∨ k = 34 → x k = m0 k) ∧ pq_le l4 127 ∧ pq_le (x 33) 511
def pq_v (l4 : Int32) (x : Nat → Int32) : Int32 := l4 ||| (x 33 <<< 8)
def pq_P (m0 : Nat → Int32) (far : Nat) (r2 : Int64) (r : Int32 × (Nat → Int32) × (Nat → Int64) × (Nat → Int64)) : Prop :=
  (∃ x : Nat → Int32, pq_V m0 x r.1 ∧ r.2.1 = s7_unpacks x r2) ∧ ∀ u, pq_le (pq_v r.1 r.2.1) u ↔ pq_T far m0 u
def pq_iO (T : Nat) (st m0 : Nat → Int32) (far n9 : Nat) (x : Nat → Int32) (w : Nat → Int64) (l4 : Int32) (tn : Nat) : Prop :=
  wq_O m0 (nI far) n9 x w (nI tn) ∧ pq_V m0 x l4 ∧ tn ≤ far + 1 ∧ 1 ≤ tn ∧ ∃ N : Nat, N < 1000 ∧ x 32 = nI N ∧ (∀ i, i < N → pq_g (T + tn - 1) st m0 (w i)) ∧ ∀ u, (pq_le (pq_v l4 x) u ∧ ∀ i, i < N → pq_T (far + 1 - tn) (s7_unpacks m0 (w i)) u) ↔ pq_T far m0 u
def pq_iM (T : Nat) (st m0 : Nat → Int32) (far nO n9 : Nat) (x : Nat → Int32) (w th : Nat → Int64) (l4 : Int32) (tn M kn : Nat) : Prop :=
  wq_M m0 (nI far) nO n9 x w th (nI tn) (nI M) (nI kn) ∧ pq_V m0 x l4 ∧ tn ≤ far ∧ 1 ≤ tn ∧ M < 1000 ∧ ∃ N : Nat, N < 1000 ∧ kn ≤ N ∧ x 32 = nI N ∧ (∀ i, i < N → pq_g (T + tn - 1) st m0 (w i)) ∧ (∀ i, i < M → pq_g (T + tn) st m0 (th i)) ∧ ∀ u, (pq_le (pq_v l4 x) u ∧ (∀ i, i < M → pq_T (far - tn) (s7_unpacks m0 (th i)) u) ∧ ∀ i, kn ≤ i → i < N → pq_T (far + 1 - tn) (s7_unpacks m0 (w i)) u) ↔ pq_T far m0 u
def pq_iI (T : Nat) (st m0 : Nat → Int32) (far nP nO n9 : Nat) (x : Nat → Int32) (w th : Nat → Int64) (l4 : Int32) (tn M kn j : Nat) : Prop :=
  wq_I m0 (nI far) nP nO n9 x w th (nI tn) (nI M) (nI kn) (nI j) ∧ pq_V m0 x l4 ∧ tn ≤ far ∧ 1 ≤ tn ∧ M < 1000 ∧ j ≤ 64 ∧ ∃ N : Nat, N < 1000 ∧ kn < N ∧ x 32 = nI N ∧ (∀ i, i < N → pq_g (T + tn - 1) st m0 (w i)) ∧ (∀ i, i < M → pq_g (T + tn) st m0 (th i)) ∧ ∀ u, (pq_le (pq_v l4 x) u ∧ (∀ i, i < M → pq_T (far - tn) (s7_unpacks m0 (th i)) u) ∧ (∀ a, j ≤ a → a < 64 → pq_le (pq_fm (s7_unpacks m0 (w kn) 12) (s7_plays (s7_unpacks m0 (w kn)) (nI a) 12) (s7_plays (s7_unpacks m0 (w kn)) (nI a) 13)) u ∧ pq_T (far - tn) (s7_plays (s7_unpacks m0 (w kn)) (nI a)) u) ∧ ∀ i, kn + 1 ≤ i → i < N → pq_T (far + 1 - tn) (s7_unpacks m0 (w i)) u) ↔ pq_T far m0 u
def pq_iC (T : Nat) (st m0 : Nat → Int32) (far nO n9 : Nat) (x : Nat → Int32) (w th : Nat → Int64) (l4 : Int32) (tn c : Nat) : Prop :=
  wq_C m0 (nI far) nO n9 x (nI tn) (nI c) ∧ pq_V m0 x l4 ∧ tn ≤ far ∧ 1 ≤ tn ∧ ∃ M : Nat, M < 1000 ∧ c ≤ M ∧ x 32 = nI M ∧ (∀ i, i < M → pq_g (T + tn) st m0 (th i)) ∧ (∀ i, i < c → w i = th i) ∧ ∀ u, (pq_le (pq_v l4 x) u ∧ ∀ i, i < M → pq_T (far - tn) (s7_unpacks m0 (th i)) u) ↔ pq_T far m0 u
