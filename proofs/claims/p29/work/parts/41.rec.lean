/-! PURE: the records of an object -/
def ta_pl (n : Nat) : Nat := if n = 0 then 0 else (n - 1) % 100 + 1
/-- the rings hold the last records of n, of whom P, Q, R tell ticks, states and reasons -/
def ta_K (n : Nat) (P Q R hh t1 t2 t3 : Nat → Int32) : Prop :=
  hh 3 = nI n ∧ hh 4 = nI (if 100 ≤ n then 100 else n) ∧ hh 5 = nI (ta_pl n) ∧ ∀ r, r < n → n ≤ r + 100 → t1 (r % 100) = P r ∧ t2 (r % 100) = Q r ∧ t3 (r % 100) = R r
/-- .. and the records keep to one another and to the furnace f, at the tick c -/
def ta_L (n : Nat) (P Q R : Nat → Int32) (c : Int32) (f : Nat → Int32) : Prop :=
  (∀ r, r + 1 < n → P r ≤ P (r + 1) ∧ ¬ Q r = Q (r + 1)) ∧ (∀ r, r < n → P r ≤ c ∧ (0 < R r ↔ Q r = 6)) ∧ (∀ r, r + 1 = n → Q r = f 3 ∧ R r = f 4 ∧ c - P r = f 5) ∧ (n = 0 → f 3 = 0)
def ta_H (T : Nat) (b f hh t1 t2 t3 : Nat → Int32) : Prop :=
  ∃ (n t : Nat) (P Q R : Nat → Int32), n ≤ T ∧ t ≤ T ∧ b 6 = nI t ∧ ta_K n P Q R hh t1 t2 t3 ∧ ta_L n P Q R (b 6) f
theorem ta_sub1 (p q : Int32) : p + 1 - q = p - q + 1 := by
  rw [Int32.sub_eq_add_neg, Int32.sub_eq_add_neg, Int32.add_assoc, Int32.add_comm 1, ← Int32.add_assoc]
theorem ta_leT {x y z : Int32} (h : x ≤ y) (g : y ≤ z) : x ≤ z := by
  rw [Int32.le_iff_toInt_le] at h g ⊢
  omega
theorem ta_leS {t : Nat} (h : t < 2000000) : nI t ≤ nI t + 1 := by
  rw [nI_1]
  exact nI_le (by omega) (by omega)
/-- a tick without a change -/
theorem ta_Ltk {n t : Nat} {P Q R f f1 : Nat → Int32} {c : Int32} (h : ta_L n P Q R c f) (hc : c = nI t) (ht : t < 1000000) (h3 : f1 3 = f 3) (h4 : f1 4 = f 4) (h5 : f1 5 = f 5 + 1) : ta_L n P Q R (c + 1) f1 := by
  obtain ⟨h0, h1, h2, hz⟩ := h
  have hcc : c ≤ c + 1 := by rw [hc]; exact ta_leS (by omega)
  refine ⟨h0, fun r hr => ⟨ta_leT (h1 r hr).1 hcc, (h1 r hr).2⟩, fun r hr => ?_, fun hn => by rw [h3]; exact hz hn⟩
  obtain ⟨e1, e2, e3⟩ := h2 r hr
  exact ⟨by rw [h3]; exact e1, by rw [h4]; exact e2, by rw [ta_sub1, e3, h5]⟩
/-- a record more -/
theorem ta_Kadd {n : Nat} {P Q R hh t1 t2 t3 : Nat → Int32} (x y z : Int32) (h : ta_K n P Q R hh t1 t2 t3) (hn : n < 1000000) :
    ta_K (n + 1) (upd P n x) (upd Q n y) (upd R n z) (s3_add hh t1 t2 t3 x y z).1 (s3_add hh t1 t2 t3 x y z).2.1 (s3_add hh t1 t2 t3 x y z).2.2.1 (s3_add hh t1 t2 t3 x y z).2.2.2 := by
  obtain ⟨h3, h4, h5, hi⟩ := h
  have hp : ta_pl n ≤ 100 := by unfold ta_pl; split <;> omega
  have hs : ∃ w : Nat → Int32, s3_add hh t1 t2 t3 x y z = ((upd (upd (upd w 5 (w 5 + 1)) 4 (if 100 < w 4 + 1 then 100 else w 4 + 1)) 3 (w 3 + 1)), (upd t1 (w 5).toNatClampNeg x), (upd t2 (w 5).toNatClampNeg y), (upd t3 (w 5).toNatClampNeg z)) ∧ w 5 = nI (n % 100) ∧ w 4 = hh 4 ∧ w 3 = hh 3 := by
    refine ⟨(if hh 5 < 0 then upd hh 5 0 else (if hh 5 < 100 then hh else upd hh 5 0)), ?_, ?_⟩
    · simp only [s3_add]
    · have q0 : ¬ hh 5 < 0 := by rw [h5]; exact nI_pos (by omega)
      rw [if_neg q0]
      by_cases c : hh 5 < 100
      · rw [if_pos c]
        have c1 : ta_pl n < 100 := by
          rw [h5] at c
          exact (nI_ltI (b := 100) (by omega) (by decide)).mp c
        refine ⟨?_, rfl, rfl⟩
        rw [h5]
        refine congrArg nI ?_
        unfold ta_pl at c1 ⊢
        by_cases z : n = 0
        · rw [z]; rfl
        · rw [if_neg z] at c1 ⊢; omega
      · rw [if_neg c]
        have c1 : ¬ ta_pl n < 100 := fun q => c (by rw [h5]; exact (nI_ltI (b := 100) (by omega) (by decide)).mpr q)
        refine ⟨?_, cw_updn _ _ (by decide), cw_updn _ _ (by decide)⟩
        have e : n % 100 = 0 := by
          unfold ta_pl at c1
          by_cases z : n = 0
          · rw [z]
          · rw [if_neg z] at c1; omega
        rw [cw_upd0, e]
        rfl
  obtain ⟨w, hw, w5, w4, w3⟩ := hs
  have hcl : (nI (n % 100)).toNatClampNeg = n % 100 := nI_clamp (by omega)
  rw [hw, w5, hcl]
  refine ⟨?_, ?_, ?_, ?_⟩
  · show upd (upd (upd w 5 (nI (n % 100) + 1)) 4 (if 100 < w 4 + 1 then 100 else w 4 + 1)) 3 (w 3 + 1) 3 = nI (n + 1)
    rw [cw_upd0, w3, h3, nI_1]
  · show upd (upd (upd w 5 (nI (n % 100) + 1)) 4 (if 100 < w 4 + 1 then 100 else w 4 + 1)) 3 (w 3 + 1) 4 = _
    rw [cw_updn _ _ (by decide), cw_upd0, w4, h4, nI_1]
    by_cases z : 100 ≤ n
    · rw [if_pos z, if_pos (show (100 : Int32) < nI (100 + 1) by decide), if_pos (by omega)]
      rfl
    · rw [if_neg z, if_neg (show ¬ (100 : Int32) < nI (n + 1) from nI_nlt (a := 100) (by omega) (by decide))]
      refine congrArg nI ?_
      split <;> omega
  · show upd (upd (upd w 5 (nI (n % 100) + 1)) 4 (if 100 < w 4 + 1 then 100 else w 4 + 1)) 3 (w 3 + 1) 5 = _
    rw [cw_updn _ _ (by decide), cw_updn _ _ (by decide), cw_upd0, nI_1]
    unfold ta_pl
    rw [if_neg (by omega), Nat.add_sub_cancel]
  · intro r hr hr1
    show upd t1 (n % 100) x (r % 100) = upd P n x r ∧ upd t2 (n % 100) y (r % 100) = upd Q n y r ∧ upd t3 (n % 100) z (r % 100) = upd R n z r
    by_cases c : r = n
    · rw [c]
      exact ⟨by rw [cw_upd0, cw_upd0], by rw [cw_upd0, cw_upd0], by rw [cw_upd0, cw_upd0]⟩
    · have d : ¬ r % 100 = n % 100 := by omega
      obtain ⟨i1, i2, i3⟩ := hi r (by omega) (by omega)
      rw [cw_updn _ _ d, cw_updn _ _ d, cw_updn _ _ d, cw_updn _ _ c, cw_updn _ _ c, cw_updn _ _ c]
      exact ⟨i1, i2, i3⟩
theorem ta_Ladd {n t : Nat} {P Q R f f1 : Nat → Int32} {c c1 : Int32} (h : ta_L n P Q R c f) (hc : c = nI t) (ht : t < 1000000) (hc1 : c1 = c ∨ c1 = c + 1) (h3 : ¬ f1 3 = f 3) (h46 : 0 < f1 4 ↔ f1 3 = 6) (h5 : f1 5 = 0) : ta_L (n + 1) (upd P n c1) (upd Q n (f1 3)) (upd R n (f1 4)) c1 f1 := by
  obtain ⟨h0, h1, h2, hz⟩ := h
  have hcc : c ≤ c1 := by
    rcases hc1 with hc1 | hc1
    · rw [hc1]; exact Int32.le_refl _
    · rw [hc1, hc]; exact ta_leS (by omega)
  refine ⟨fun r hr => ?_, fun r hr => ?_, fun r hr => ?_, fun hn => absurd hn (by omega)⟩
  · have d : ¬ r = n := by omega
    rw [cw_updn _ _ d, cw_updn _ _ d]
    by_cases e : r + 1 = n
    · rw [e, cw_upd0, cw_upd0]
      refine ⟨ta_leT (h1 r (by omega)).1 hcc, ?_⟩
      rw [(h2 r e).1]
      exact fun q => h3 q.symm
    · rw [cw_updn _ _ e, cw_updn _ _ e]
      exact h0 r (by omega)
  · by_cases e : r = n
    · rw [e, cw_upd0, cw_upd0, cw_upd0]
      exact ⟨Int32.le_refl _, h46⟩
    · rw [cw_updn _ _ e, cw_updn _ _ e, cw_updn _ _ e]
      exact ⟨ta_leT (h1 r (by omega)).1 hcc, (h1 r (by omega)).2⟩
  · have e : r = n := by omega
    rw [e, cw_upd0, cw_upd0, cw_upd0, h5]
    exact ⟨rfl, rfl, Int32.sub_self _⟩
/-- what is read of a record -/
theorem ta_read {n : Nat} {P Q R hh t1 t2 t3 : Nat → Int32} (h : ta_K n P Q R hh t1 t2 t3) (hn : n < 1000000) {k : Nat} (hk : k < n) (hk1 : k < 100) :
    s3_read hh t1 (nI k) = P (n - 1 - k) ∧ s3_read hh t2 (nI k) = Q (n - 1 - k) ∧ s3_read hh t3 (nI k) = R (n - 1 - k) := by
  obtain ⟨h3, h4, h5, hi⟩ := h
  have h50 : hh 5 = nI ((n - 1) % 100 + 1) := by rw [h5]; unfold ta_pl; rw [if_neg (by omega)]
  have hk9 : (nI k).toInt = k := nI_toInt (by omega)
  have hq9 : (nI ((n - 1) % 100)).toInt = ((n - 1) % 100 : Nat) := nI_toInt (by omega)
  have e0 : (hh 5 - 1 - nI k).toInt = ((n - 1) % 100 : Nat) - (k : Int) := by
    rw [h50, nI_pred, ta_sub (by omega) (by omega), hq9, hk9]
  have h100 : (100 : Int32).toInt = 100 := by decide
  have h00 : (0 : Int32).toInt = 0 := by decide
  have e1 : (hh 5 - 1 - nI k + 100).toInt = ((n - 1) % 100 : Nat) - (k : Int) + 100 := by
    rw [ta_add (by omega) (by rw [h100]; omega), e0, h100]
  have hr : ∀ ra : Nat → Int32, s3_read hh ra (nI k) = ra ((n - 1 - k) % 100) := by
    intro ra
    have hw : (if 0 ≤ hh 5 - 1 - nI k then hh 5 - 1 - nI k else hh 5 - 1 - nI k + 100) = nI ((n - 1 - k) % 100) := by
      apply Int32.toInt_inj.mp
      rw [nI_toInt (by omega)]
      by_cases d : 0 ≤ hh 5 - 1 - nI k
      · rw [if_pos d, e0]
        rw [Int32.le_iff_toInt_le, e0, h00] at d
        omega
      · rw [if_neg d, e1]
        have d1 := cw_lt1 d
        rw [e0, h00] at d1
        omega
    have q0 : ¬ nI ((n - 1 - k) % 100) < 0 := nI_pos (by omega)
    have q1 : ¬ (100 : Int32) ≤ nI ((n - 1 - k) % 100) := nI_ge (b := 100) (by omega) (by decide)
    simp only [s3_read, hw, if_neg q0, if_neg q1, nI_clamp (show (n - 1 - k) % 100 < 2 ^ 31 by omega)]
  obtain ⟨i1, i2, i3⟩ := hi (n - 1 - k) (by omega) (by omega)
  rw [hr, hr, hr]
  exact ⟨i1, i2, i3⟩
/-- all that an object keeps -/
def ta_J (T : Nat) (b st f ep eq hh t1 t2 t3 : Nat → Int32) : Prop := (ep 0 = 0 ∨ ep 0 = 1) ∧ (eq 0 = 0 ∨ eq 0 = 1) ∧ ta_F f ∧ ta_S st ∧ ta_H T b f hh t1 t2 t3
theorem ta_46 {f : Nat → Int32} (h : ta_F f) : 0 < f 4 ↔ f 3 = 6 := by
  obtain ⟨-, h1, h2, -⟩ := h
  have e0 : (0 : Int32).toInt = 0 := by decide
  constructor
  · intro q
    by_cases c : f 3 = 6
    · exact c
    · rw [h2 c] at q
      exact absurd q (by decide)
  · intro q
    rw [Int32.lt_iff_toInt_lt]
    have := h1 q
    omega
theorem ta_HT {T T1 : Nat} {b f hh t1 t2 t3 : Nat → Int32} (h : ta_H T b f hh t1 t2 t3) (hT : T ≤ T1) : ta_H T1 b f hh t1 t2 t3 := by
  obtain ⟨n, t, P, Q, R, h0, h1, h2⟩ := h
  exact ⟨n, t, P, Q, R, by omega, by omega, h2⟩
theorem ta_JT {T T1 : Nat} {b st f ep eq hh t1 t2 t3 : Nat → Int32} (h : ta_J T b st f ep eq hh t1 t2 t3) (hT : T ≤ T1) : ta_J T1 b st f ep eq hh t1 t2 t3 := ⟨h.1, h.2.1, h.2.2.1, h.2.2.2.1, ta_HT h.2.2.2.2 hT⟩
theorem ta_JS {T : Nat} {b st st1 f ep eq hh t1 t2 t3 : Nat → Int32} (h : ta_J T b st f ep eq hh t1 t2 t3) (hS : ta_S st1) : ta_J T b st1 f ep eq hh t1 t2 t3 := ⟨h.1, h.2.1, h.2.2.1, hS, h.2.2.2.2⟩
theorem ta_Jb {T : Nat} {b b1 st f ep eq hh t1 t2 t3 : Nat → Int32} (h : ta_J T b st f ep eq hh t1 t2 t3) (hb : b1 6 = b 6) : ta_J T b1 st f ep eq hh t1 t2 t3 := by
  obtain ⟨h1, h2, h3, h4, n, t, P, Q, R, q1, q2, q3, q4, q5⟩ := h
  exact ⟨h1, h2, h3, h4, n, t, P, Q, R, q1, q2, by rw [hb]; exact q3, q4, by rw [hb]; exact q5⟩
/-- a tick of an object: its clock, its furnace, and a record where the state changed -/
theorem ta_Jtick {T : Nat} {b b1 st f ep eq hh t1 t2 t3 : Nat → Int32} {a : Int32} (h : ta_J T b st f ep eq hh t1 t2 t3) (hT : T < 1000000) (hb : b1 6 = b 6 + 1) :
    ta_J (T + 1) b1 st (s2_tick f ep eq st a).2.1 (s2_tick f ep eq st a).2.2.1 (s2_tick f ep eq st a).2.2.2
      (if (s2_tick f ep eq st a).1 = 0 then hh else (s6_recordChange b1 (s2_tick f ep eq st a).2.1 hh t1 t2 t3).1) (if (s2_tick f ep eq st a).1 = 0 then t1 else (s6_recordChange b1 (s2_tick f ep eq st a).2.1 hh t1 t2 t3).2.1)
      (if (s2_tick f ep eq st a).1 = 0 then t2 else (s6_recordChange b1 (s2_tick f ep eq st a).2.1 hh t1 t2 t3).2.2.1) (if (s2_tick f ep eq st a).1 = 0 then t3 else (s6_recordChange b1 (s2_tick f ep eq st a).2.1 hh t1 t2 t3).2.2.2) := by
  obtain ⟨h1, h2, h3, h4, n, t, P, Q, R, q1, q2, q3, q4, q5⟩ := h
  obtain ⟨hF, hx⟩ := ta_tick (ep := ep) (eq := eq) (a := a) h3 h4
  refine ⟨zt1 _ _ _ _ _ h1, zt2 _ _ _ _ _ h2, hF, h4, ?_⟩
  rcases hx with ⟨x0, x3, x4, x5⟩ | ⟨x0, x3, x5⟩
  · simp only [if_pos x0]
    refine ⟨n, t + 1, P, Q, R, by omega, by omega, by rw [hb, q3, nI_1], q4, ?_⟩
    rw [hb]
    exact ta_Ltk q5 q3 (by omega) x3 x4 x5
  · have x1 : ¬ (s2_tick f ep eq st a).1 = 0 := by rw [x0]; decide
    simp only [if_neg x1, s6_recordChange]
    refine ⟨n + 1, t + 1, _, _, _, by omega, by omega, by rw [hb, q3, nI_1], ta_Kadd _ _ _ q4 (by omega), ?_⟩
    exact ta_Ladd q5 q3 (by omega) (Or.inr hb) x3 (ta_46 hF) x5
