/-! PURE: polls, one tick after another -/
abbrev tb_Z := (Nat → Int32) × (Nat → Int32) × (Nat → Int32) × (Nat → Int32) × (Nat → Int32) × (Nat → Int32) × (Nat → Int32) × (Nat → Int32)
def tb_r (st : Nat → Int32) (z : tb_Z) : Int32 := (s2_tick z.2.1 z.2.2.1 z.2.2.2.1 st (z.1 5)).1
def tb_s (st : Nat → Int32) (z : tb_Z) : tb_Z :=
  (upd z.1 6 (z.1 6 + 1), (s2_tick z.2.1 z.2.2.1 z.2.2.2.1 st (z.1 5)).2.1, (s2_tick z.2.1 z.2.2.1 z.2.2.2.1 st (z.1 5)).2.2.1, (s2_tick z.2.1 z.2.2.1 z.2.2.2.1 st (z.1 5)).2.2.2,
    (if (s2_tick z.2.1 z.2.2.1 z.2.2.2.1 st (z.1 5)).1 = 0 then z.2.2.2.2.1 else (s6_recordChange (upd z.1 6 (z.1 6 + 1)) (s2_tick z.2.1 z.2.2.1 z.2.2.2.1 st (z.1 5)).2.1 z.2.2.2.2.1 z.2.2.2.2.2.1 z.2.2.2.2.2.2.1 z.2.2.2.2.2.2.2).1),
    (if (s2_tick z.2.1 z.2.2.1 z.2.2.2.1 st (z.1 5)).1 = 0 then z.2.2.2.2.2.1 else (s6_recordChange (upd z.1 6 (z.1 6 + 1)) (s2_tick z.2.1 z.2.2.1 z.2.2.2.1 st (z.1 5)).2.1 z.2.2.2.2.1 z.2.2.2.2.2.1 z.2.2.2.2.2.2.1 z.2.2.2.2.2.2.2).2.1),
    (if (s2_tick z.2.1 z.2.2.1 z.2.2.2.1 st (z.1 5)).1 = 0 then z.2.2.2.2.2.2.1 else (s6_recordChange (upd z.1 6 (z.1 6 + 1)) (s2_tick z.2.1 z.2.2.1 z.2.2.2.1 st (z.1 5)).2.1 z.2.2.2.2.1 z.2.2.2.2.2.1 z.2.2.2.2.2.2.1 z.2.2.2.2.2.2.2).2.2.1),
    (if (s2_tick z.2.1 z.2.2.1 z.2.2.2.1 st (z.1 5)).1 = 0 then z.2.2.2.2.2.2.2 else (s6_recordChange (upd z.1 6 (z.1 6 + 1)) (s2_tick z.2.1 z.2.2.1 z.2.2.2.1 st (z.1 5)).2.1 z.2.2.2.2.1 z.2.2.2.2.2.1 z.2.2.2.2.2.2.1 z.2.2.2.2.2.2.2).2.2.2))
def tb_i (st : Nat → Int32) : Nat → tb_Z → tb_Z
  | 0, z => z
  | k + 1, z => tb_i st k (tb_s st z)
def tb_c (st : Nat → Int32) : Nat → tb_Z → Int32 → Int32
  | 0, _, x => x
  | k + 1, z, x => tb_c st k (tb_s st z) (if tb_r st z = 0 then x else x + 1)
def tb_J (T : Nat) (st : Nat → Int32) (z : tb_Z) : Prop := ta_J T z.1 st z.2.1 z.2.2.1 z.2.2.2.1 z.2.2.2.2.1 z.2.2.2.2.2.1 z.2.2.2.2.2.2.1 z.2.2.2.2.2.2.2
def tb_p (b f ep eq st hh t1 t2 t3 : Nat → Int32) (a : Int32) (n9 : Nat) (z : tb_Z) (x y : Int32) : Int32 × tb_Z := s6_pollN_L b f ep eq st hh t1 t2 t3 a n9 z.1 z.2.1 z.2.2.1 z.2.2.2.1 z.2.2.2.2.1 z.2.2.2.2.2.1 z.2.2.2.2.2.2.1 z.2.2.2.2.2.2.2 x y
section TB
variable {b f ep eq st hh t1 t2 t3 : Nat → Int32}
theorem tb_pS (a : Int32) (n9 : Nat) (z : tb_Z) (x y : Int32) : tb_p b f ep eq st hh t1 t2 t3 a (n9 + 1) z x y = if a ≤ y then (x, z) else tb_p b f ep eq st hh t1 t2 t3 a n9 (tb_s st z) (if tb_r st z = 0 then x else x + 1) (y + 1) := rfl
theorem tb_pI (n : Nat) (hn : n < 1000) : ∀ (k n9 j : Nat) (z : tb_Z) (x : Int32), k < n9 → j + k = n → tb_p b f ep eq st hh t1 t2 t3 (nI n) n9 z x (nI j) = (tb_c st k z x, tb_i st k z) := by
  intro k
  induction k with
  | zero =>
    intro n9 j z x h1 h2
    obtain ⟨m, rfl⟩ : ∃ m, n9 = m + 1 := ⟨n9 - 1, by omega⟩
    rw [tb_pS, if_pos (nI_le (by omega) (by omega))]
    rfl
  | succ k ih =>
    intro n9 j z x h1 h2
    obtain ⟨m, rfl⟩ : ∃ m, n9 = m + 1 := ⟨n9 - 1, by omega⟩
    rw [tb_pS, if_neg (nI_ge (by omega) (by omega)), nI_1]
    exact ih m (j + 1) (tb_s st z) _ (by omega) (by omega)
theorem tb_poll (n : Nat) (hn : n ≤ 200) (z : tb_Z) : s6_pollN z.1 z.2.1 z.2.2.1 z.2.2.2.1 st z.2.2.2.2.1 z.2.2.2.2.2.1 z.2.2.2.2.2.2.1 z.2.2.2.2.2.2.2 (nI n) = (tb_c st n z 0, tb_i st n z) :=
  tb_pI (b := z.1) (f := z.2.1) (ep := z.2.2.1) (eq := z.2.2.2.1) (hh := z.2.2.2.2.1) (t1 := z.2.2.2.2.2.1) (t2 := z.2.2.2.2.2.2.1) (t3 := z.2.2.2.2.2.2.2) n (by omega) n 201 0 z 0 (by omega) (by omega)
theorem tb_sJ {T : Nat} {z : tb_Z} (h : tb_J T st z) (hT : T < 1000000) : tb_J (T + 1) st (tb_s st z) := ta_Jtick (b1 := upd z.1 6 (z.1 6 + 1)) h hT (cw_upd0 _ _ _)
theorem tb_iJ : ∀ (k T : Nat) (z : tb_Z), tb_J T st z → T + k < 1000000 → tb_J (T + k) st (tb_i st k z) := by
  intro k
  induction k with
  | zero => intro T z h _; exact h
  | succ k ih =>
    intro T z h hT
    have h9 := ih (T + 1) (tb_s st z) (tb_sJ h (by omega)) (by omega)
    rw [show T + (k + 1) = T + 1 + k by omega]
    exact h9
/-- a tick's answer tells whether the state changed -/
theorem tb_fl {T : Nat} {z : tb_Z} (h : tb_J T st z) : (tb_r st z = 0 ∧ (tb_s st z).2.1 3 = z.2.1 3) ∨ (tb_r st z = 1 ∧ ¬ (tb_s st z).2.1 3 = z.2.1 3) := by
  obtain ⟨-, hx⟩ := ta_tick (ep := z.2.2.1) (eq := z.2.2.2.1) (a := z.1 5) h.2.2.1 h.2.2.2.1
  rcases hx with ⟨x0, x3, -, -⟩ | ⟨x0, x3, -⟩
  · exact Or.inl ⟨x0, x3⟩
  · exact Or.inr ⟨x0, x3⟩
end TB
/-! the loop of 'goes' -/
def tb_g (b st f ep eq hh t1 t2 t3 : Nat → Int32) (a3 a4 : Int32) (n9 : Nat) (z : tb_Z) (ub : Nat → Int32) (i n tk x j : Int32) := sL_goes_L b st f ep eq hh t1 t2 t3 a3 a4 n9 z.1 z.2.1 z.2.2.1 z.2.2.2.1 z.2.2.2.2.1 z.2.2.2.2.2.1 z.2.2.2.2.2.2.1 z.2.2.2.2.2.2.2 ub i n tk x j
section TG
variable {b st f ep eq hh t1 t2 t3 ub : Nat → Int32} {a3 a4 tk : Int32}
theorem tb_n10 : ¬ (1 : Int32) = 0 := by decide
theorem tb_gL (n : Nat) (hn : n ≤ 40) (C : Int32) (Y : tb_Z) (hY : s6_pollN ub f ep eq st hh t1 t2 t3 (nI n) = (C, Y)) : ∀ (k n9 j T : Nat) (z : tb_Z) (x : Int32), k < n9 → j + k = n → tb_J T st z → T + k < 1000000 → z.1 6 = tk + nI j → tb_i st k z = Y → tb_c st k z x = C →
    tb_g b st f ep eq hh t1 t2 t3 a3 a4 n9 z ub 1 (nI n) tk x (nI j) = (1, Y.1, Y.2.1, Y.2.2.1, Y.2.2.2.1, Y.2.2.2.2.1, Y.2.2.2.2.2.1, Y.2.2.2.2.2.2.1, Y.2.2.2.2.2.2.2, Y.1, Y.2.1, Y.2.2.1, Y.2.2.2.1, Y.2.2.2.2.1, Y.2.2.2.2.2.1, Y.2.2.2.2.2.2.1, Y.2.2.2.2.2.2.2) := by
  intro k
  induction k with
  | zero =>
    intro n9 j T z x h1 h2 hJ hT h6 hi hc
    obtain ⟨m, rfl⟩ : ∃ m, n9 = m + 1 := ⟨n9 - 1, by omega⟩
    have e1 : z = Y := hi
    have e2 : x = C := hc
    unfold tb_g
    simp only [sL_goes_L]
    rw [if_pos (nI_le (show n ≤ j by omega) (by omega))]
    simp only [hY, e1, e2, tb_n10, if_false, if_true, lg_cmp_self]
  | succ k ih =>
    intro n9 j T z x h1 h2 hJ hT h6 hi hc
    obtain ⟨m, rfl⟩ : ∃ m, n9 = m + 1 := ⟨n9 - 1, by omega⟩
    have hp : s6_pollN z.1 z.2.1 z.2.2.1 z.2.2.2.1 st z.2.2.2.2.1 z.2.2.2.2.2.1 z.2.2.2.2.2.2.1 z.2.2.2.2.2.2.2 1 = ((if tb_r st z = 0 then 0 else 0 + 1), tb_s st z) := tb_poll 1 (by omega) z
    have hih := ih m (j + 1) (T + 1) (tb_s st z) (if tb_r st z = 0 then x else x + 1) (by omega) (by omega) (tb_sJ hJ (by omega)) (by omega) (by show upd z.1 6 (z.1 6 + 1) 6 = _; rw [cw_upd0, h6, ← nI_1, Int32.add_assoc]) hi hc
    rw [← hih]
    unfold tb_g
    rw [sL_goes_L]
    rw [if_neg (nI_ge (show j < n by omega) (by omega))]
    simp only [hp, tb_n10, if_false]
    have e6 : s6_ticks (tb_s st z).1 = ((tk + nI j) + 1) := by
      show upd z.1 6 (z.1 6 + 1) 6 = _
      rw [cw_upd0, h6]
    rcases tb_fl hJ with ⟨r0, r3⟩ | ⟨r0, r3⟩
    · have e3 : s6_state (tb_s st z).1 (tb_s st z).2.1 = s6_state z.1 z.2.1 := r3
      simp only [r0, e3, e6, if_true, nI_1, Int32.add_zero]
    · have e3 : ¬ s6_state (tb_s st z).1 (tb_s st z).2.1 = s6_state z.1 z.2.1 := r3
      simp only [r0, e3, e6, tb_n10, if_true, if_false, nI_1, Int32.zero_add]
end TG
